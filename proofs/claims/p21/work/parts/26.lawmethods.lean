/-! THE LAW'S OWN METHODS OVER ONE OBJECT: part, drawn, seen, puts, refusesAny, refused -/
def seenR (P : Pn) (k : Nat) (h : Int) : Nat → Int
  | 0 => h
  | n + 1 => 31 * seenR P k h n + i2J (if 3 < (n : Int) ∧ (n : Int) < 10 then 0 else stateA P ((k : Int) / 8) ((k : Int) % 8) (n : Int))
def seenS (P : Pn) : Nat → Int
  | 0 => 7
  | k + 1 => seenR P k (seenS P k) 16
def seenT (P : Pn) : Nat → Int
  | 0 => seenS P 24
  | j + 1 => 31 * (31 * seenT P j + i2J (tkA2 P ((j : Int) / 3) ((j : Int) % 3) 0)) + i2J (countA P 0 0 (10 + (j : Int)))
def seenA (P : Pn) : Int := 31 * (31 * seenT P 9 + i2J (countA P 0 0 0)) + i2J (countA P 0 0 1)
theorem countA_st {P : Pn} {h t c : Int} (h2 : ¬ c = 2) (h3 : ¬ c = 3) : countA P h t c = countA P 0 0 c := by
  unfold countA
  rw [if_neg h2, if_neg h3, if_neg h2, if_neg h3]
theorem countA_inv {P : Pn} {h t c : Int} (h1 : ¬ (10 ≤ c ∧ c < 19)) (h0 : ¬ (0 ≤ c ∧ c ≤ 3)) : countA P h t c = -1000001 := by
  unfold countA
  rw [if_neg h1, if_neg (by omega), if_neg (by omega), if_neg (by omega), if_neg (by omega)]
theorem pair64 {P : Pn} (hP : POk P) : pairA P 0 0 64 0 = -1000004 := by
  have hB := (bfs_inv (nxF_ok (tog := togT) (wP_ok hP (p := 0) (by decide)) (wP_ok hP (p := 0) (by decide)))).le
  unfold pairA
  exact pairB_n (fun q => by
    have h2 : (64 : Int) < ((bN (bfs (nxF togT (wP P) (2 * 0 + 1) (2 * 0 + 1))) : Nat) : Int) := q.2
    omega)
/-! what 'puts' types -/
def byI (W : Int) (j : Nat) : Int := l2iI (landI (lshrI W (56 - 8 * (j : Int))) 255)
def bys (W : Int) : Nat → List Int
  | 0 => []
  | j + 1 => bys W j ++ (if 0 < byI W j then [byI W j] else [])
theorem bys_n {W : Int} {j : Nat} (h : byI W j ≤ 0) : bys W (j + 1) = bys W j := by show bys W j ++ _ = _; rw [if_neg (by omega), List.append_nil]
theorem bys_p {W : Int} {j : Nat} (h : 0 < byI W j) : bys W (j + 1) = bys W j ++ [byI W j] := by show bys W j ++ _ = _; rw [if_pos h]
theorem bys_len (W : Int) : ∀ j, (bys W j).length ≤ j
  | 0 => Nat.le_refl 0
  | j + 1 => by
    have ih := bys_len W j
    show (bys W j ++ (if 0 < byI W j then [byI W j] else [])).length ≤ j + 1
    rw [List.length_append]
    split
    · simp; omega
    · simp; omega
def okW (W : Int) : Bool := allb (fun j => decide (byI W j ≤ 0 ∨ (32 ≤ byI W j ∧ byI W j ≤ 126))) 8
theorem okW_at {W : Int} (h : okW W = true) {j : Nat} (hj : j < 8) (hp : 0 < byI W j) : 32 ≤ byI W j ∧ byI W j ≤ 126 := by
  rcases of_decide_eq_true ((allb_iff 8).mp h j hj) with q | q
  · omega
  · exact q
set_option maxRecDepth 100000 in
set_option maxHeartbeats 4000000 in
theorem t_part {l : Launch} {G : mG} {w : mW} {a b : Int} (hb : -2147483648 ≤ b ∧ b < 2147483648) (hb0 : ¬ b = 0) : Mx l G 0 yL_part cL_part 2 (some .int) [mvI a, mvI b] w (qI (fun z w' => (-2147483648 ≤ z ∧ z < 2147483648) ∧ w' = w)) := by
  refine Mx.intro (by decide) RL rfl [some (mvI a), some (mvI b)] (Nat.le_of_ble_eq_true rfl) rfl (fun K hC => ?_)
  refine wm_iload_n hC 0 (pc := 0) dL_part_0 rfl rfl ?_
  refine wm_ldc hC (2147483647) kI_L_7 (pc := 1) dL_part_1 ?_
  refine wm_iandA hC (pc := 3) dL_part_3 (fun v3 hv3 => ?_)
  refine wm_iload_n hC 1 (pc := 4) dL_part_4 rfl rfl ?_
  refine wm_iremA hC (pc := 5) dL_part_5 hb hb0 (fun v5 hv5 => ?_)
  refine wm_iretI hC (pc := 6) dL_part_6 ?_
  exact ⟨hv5, rfl⟩
set_option maxRecDepth 100000 in
set_option maxHeartbeats 4000000 in
theorem t_drawn {l : Launch} {G : mG} {w : mW} {Ln : Nat} (hL : Ln ≤ 260) {k : Int} (hk : 0 ≤ k ∧ k < 36) : MxE l G (ScrE G Ln) 0 yL_drawn cL_drawn 2 (some .int) [mvR 40, mvI k] w (qI (fun z w' => (-2147483648 ≤ z ∧ z < 2147483648) ∧ w' = w)) := by
  refine MxE.intro (by decide) RL rfl [some (mvR 40), some (mvI k)] (Nat.le_of_ble_eq_true rfl) rfl (fun K hC hE hA => ?_)
  have hX : Scr G K Ln := ⟨hE.1, hE.2.1, fun h => hE.2.2 (hA _ h)⟩
  refine wm_aload_n hC 0 (pc := 0) dL_drawn_0 rfl rfl ?_
  refine wm_slen hC hX (pc := 1) dL_drawn_1 ?_
  refine wm_if_ne hC 15 (pc := 2) dL_drawn_2 (by decide) (by omega) (fun h2 => ?_) (fun h2 => ?_)
  · refine wm_aload_n hC 0 (pc := 15) dL_drawn_15 rfl rfl ?_
    refine wm_iload_n hC 1 (pc := 16) dL_drawn_16 rfl rfl ?_
    refine wm_aload_n hC 0 (pc := 17) dL_drawn_17 rfl rfl ?_
    refine wm_slen hC hX (pc := 18) dL_drawn_18 ?_
    refine wm_irem hC (pc := 19) dL_drawn_19 (by omega) (by omega) ?_
    refine wm_sld hC hX ⟨Int.emod_nonneg _ (by omega), Int.emod_lt_of_pos _ (by omega)⟩ (by omega) (pc := 20) dL_drawn_20 (fun v20 hv20 => ?_)
    refine wm_iload_n hC 1 (pc := 21) dL_drawn_21 rfl rfl ?_
    refine wm_bipush hC (pc := 22) dL_drawn_22 (by decide) ?_
    refine wm_irem hC (pc := 24) dL_drawn_24 (by omega) (by omega) ?_
    refine wm_ishrA hC (pc := 25) dL_drawn_25 (fun v25 hv25 => ?_)
    refine wm_iload_n hC 1 (pc := 26) dL_drawn_26 rfl rfl ?_
    refine wm_aload_n hC 0 (pc := 27) dL_drawn_27 rfl rfl ?_
    refine wm_slen hC hX (pc := 28) dL_drawn_28 ?_
    refine wm_idiv hC (pc := 29) dL_drawn_29 (by omega) (by omega) ?_
    refine wm_bipush hC (pc := 30) dL_drawn_30 (by decide) ?_
    refine wm_imul hC (pc := 32) dL_drawn_32 ?_
    refine wm_ixorA hC (pc := 33) dL_drawn_33 (fun v33 hv33 => ?_)
    refine wm_iload_n hC 1 (pc := 34) dL_drawn_34 rfl rfl ?_
    refine wm_ldc hC (2654435) kI_L_8 (pc := 35) dL_drawn_35 ?_
    refine wm_imul hC (pc := 37) dL_drawn_37 ?_
    refine wm_ixorA hC (pc := 38) dL_drawn_38 (fun v38 hv38 => ?_)
    refine wm_iretI hC (pc := 39) dL_drawn_39 ?_
    first | exact ⟨hv38, rfl⟩ | exact ⟨by omega, rfl⟩
  · refine wm_sipush hC (pc := 5) dL_drawn_5 (by decide) ?_
    refine wm_iload_n hC 1 (pc := 8) dL_drawn_8 rfl rfl ?_
    refine wm_imul hC (pc := 9) dL_drawn_9 ?_
    refine wm_iconst hC (pc := 10) dL_drawn_10 ?_
    refine wm_iadd hC (pc := 11) dL_drawn_11 ?_
    refine wm_goto hC 39 (pc := 12) dL_drawn_12 (by decide) ?_
    refine wm_iretI hC (pc := 39) dL_drawn_39 ?_
    first | exact ⟨hv38, rfl⟩ | exact ⟨by omega, rfl⟩
set_option maxRecDepth 100000 in
set_option maxHeartbeats 4000000 in
theorem t_seen {l : Launch} {G : mG} {w : mW} {P : Pn} {Hs : List Pn} {tx : List Int} {V : Int → Int} (hO : Ob w P Hs tx V) : Mx l G 7 yL_seen cL_seen 5 (some .long) [mvR 0] w (qJ (fun z w' => z = seenA P ∧ Ob w' P Hs tx V)) := by
  refine Mx.intro (by decide) RL rfl [some (mvR 0), none, none, none, none] (Nat.le_of_ble_eq_true rfl) rfl (fun K hC => ?_)
  refine wm_ldc2 hC (7) kJ_L_9 (pc := 0) dL_seen_0 ?_
  refine wm_lstore_n hC 1 (pc := 3) dL_seen_3 rfl (by decide) rfl ?_
  refine wm_iconst hC (pc := 4) dL_seen_4 ?_
  refine wm_istore_n hC 3 (pc := 5) dL_seen_5 rfl (by decide) rfl ?_
  have lp6 : ∀ (n : Nat) (k : Nat) (x4 : Option mV) (w : mW), n = 24 - k → k ≤ 24 → Ob w P Hs tx V → Wm l G K 7 5 (qJ (fun z w' => z = seenA P ∧ Ob w' P Hs tx V)) 6 [some (mvR 0), some (mvJ (seenS P k)), none, some (mvI (k : Int)), x4] [] w := by
    intro n
    induction n using Nat.strongRecOn with
    | _ n ih =>
    intro k x4 w hn hk hO
    have ihO := ih
    refine wm_iload_n hC 3 (pc := 6) dL_seen_6 rfl rfl ?_
    refine wm_bipush hC (pc := 7) dL_seen_7 (by decide) ?_
    refine wm_icmp_ge hC 73 (pc := 9) dL_seen_9 (by decide) (by omega) (by omega) (fun h9 => ?_) (fun h9 => ?_)
    · refine wm_iconst hC (pc := 73) dL_seen_73 ?_
      refine wm_istore_n hC 3 (pc := 74) dL_seen_74 rfl (by decide) rfl ?_
      have lp75 : ∀ (n : Nat) (j : Nat) (x4 : Option mV) (w : mW), n = 9 - j → j ≤ 9 → Ob w P Hs tx V → Wm l G K 7 5 (qJ (fun z w' => z = seenA P ∧ Ob w' P Hs tx V)) 75 [some (mvR 0), some (mvJ (seenT P j)), none, some (mvI (j : Int)), x4] [] w := by
        intro n
        induction n using Nat.strongRecOn with
        | _ n ih =>
        intro j x4 w hn hj hO
        refine wm_iload_n hC 3 (pc := 75) dL_seen_75 rfl rfl ?_
        refine wm_bipush hC (pc := 76) dL_seen_76 (by decide) ?_
        refine wm_icmp_ge hC 120 (pc := 78) dL_seen_78 (by decide) (by omega) (by omega) (fun h78 => ?_) (fun h78 => ?_)
        · refine wm_ldc2 hC (31) kJ_L_11 (pc := 120) dL_seen_120 ?_
          refine wm_ldc2 hC (31) kJ_L_11 (pc := 123) dL_seen_123 ?_
          refine wm_lload_n hC 1 (pc := 126) dL_seen_126 rfl rfl ?_
          refine wm_lmul hC (pc := 127) dL_seen_127 ?_
          refine wm_aload_n hC 0 (pc := 128) dL_seen_128 rfl rfl ?_
          refine wm_iconst hC (pc := 129) dL_seen_129 ?_
          refine wm_iV hC cv_L_22 kc_X8_count rfl rfl (t_count hO (by omega)) rfl (by decide) rfl (Nat.le_of_ble_eq_true rfl) (pc := 130) dL_seen_130 (fun z130 w130 hw130 => ?_)
          obtain ⟨e130, hO⟩ := hw130
          rw [countA_st (by decide) (by decide)] at e130
          refine wm_i2l hC (pc := 133) dL_seen_133 ?_
          refine wm_ladd hC (pc := 134) dL_seen_134 ?_
          refine wm_lmul hC (pc := 135) dL_seen_135 ?_
          refine wm_aload_n hC 0 (pc := 136) dL_seen_136 rfl rfl ?_
          refine wm_iconst hC (pc := 137) dL_seen_137 ?_
          refine wm_iV hC cv_L_22 kc_X8_count rfl rfl (t_count hO (by omega)) rfl (by decide) rfl (Nat.le_of_ble_eq_true rfl) (pc := 138) dL_seen_138 (fun z138 w138 hw138 => ?_)
          obtain ⟨e138, hO⟩ := hw138
          rw [countA_st (by decide) (by decide)] at e138
          refine wm_i2l hC (pc := 141) dL_seen_141 ?_
          refine wm_ladd hC (pc := 142) dL_seen_142 ?_
          refine wm_lretJ hC (pc := 143) dL_seen_143 ?_
          obtain rfl : j = 9 := by omega
          refine ⟨?_, hO⟩
          unfold seenA
          rw [← e130, ← e138]
        · refine wm_ldc2 hC (31) kJ_L_11 (pc := 81) dL_seen_81 ?_
          refine wm_ldc2 hC (31) kJ_L_11 (pc := 84) dL_seen_84 ?_
          refine wm_lload_n hC 1 (pc := 87) dL_seen_87 rfl rfl ?_
          refine wm_lmul hC (pc := 88) dL_seen_88 ?_
          refine wm_aload_n hC 0 (pc := 89) dL_seen_89 rfl rfl ?_
          refine wm_iload_n hC 3 (pc := 90) dL_seen_90 rfl rfl ?_
          refine wm_iconst hC (pc := 91) dL_seen_91 ?_
          refine wm_idiv hC (pc := 92) dL_seen_92 (by omega) (by omega) ?_
          refine wm_iload_n hC 3 (pc := 93) dL_seen_93 rfl rfl ?_
          refine wm_iconst hC (pc := 94) dL_seen_94 ?_
          refine wm_irem hC (pc := 95) dL_seen_95 (by omega) (by omega) ?_
          refine wm_iconst hC (pc := 96) dL_seen_96 ?_
          refine wm_iV hC cv_L_19 kc_X8_talk rfl rfl (t_talkW hO (by omega)) rfl (by decide) rfl (Nat.le_of_ble_eq_true rfl) (pc := 97) dL_seen_97 (fun z97 w97 hw97 => ?_)
          obtain ⟨e97, hO⟩ := hw97
          refine wm_i2l hC (pc := 100) dL_seen_100 ?_
          refine wm_ladd hC (pc := 101) dL_seen_101 ?_
          refine wm_lmul hC (pc := 102) dL_seen_102 ?_
          refine wm_aload_n hC 0 (pc := 103) dL_seen_103 rfl rfl ?_
          refine wm_bipush hC (pc := 104) dL_seen_104 (by decide) ?_
          refine wm_iload_n hC 3 (pc := 106) dL_seen_106 rfl rfl ?_
          refine wm_iadd hC (pc := 107) dL_seen_107 ?_
          refine wm_iV hC cv_L_22 kc_X8_count rfl rfl (t_count hO (by omega)) rfl (by decide) rfl (Nat.le_of_ble_eq_true rfl) (pc := 108) dL_seen_108 (fun z108 w108 hw108 => ?_)
          obtain ⟨e108, hO⟩ := hw108
          rw [countA_st (by omega) (by omega)] at e108
          refine wm_i2l hC (pc := 111) dL_seen_111 ?_
          refine wm_ladd hC (pc := 112) dL_seen_112 ?_
          refine wm_lstore_n hC 1 (pc := 113) dL_seen_113 rfl (by decide) rfl ?_
          refine wm_iinc hC (pc := 114) dL_seen_114 rfl rfl (by decide) rfl ?_
          refine wm_goto hC 75 (pc := 117) dL_seen_117 (by decide) ?_
          have e : seenT P (j + 1) = 31 * (31 * seenT P j + i2J (tkA2 P ((j : Int) / 3) ((j : Int) % 3) 0)) + i2J (countA P 0 0 (10 + (j : Int))) := rfl
          have hh := ih _ (by omega) (j + 1) x4 _ rfl (by omega) hO
          rw [e, ← e97, ← e108] at hh
          exact hh
      obtain rfl : k = 24 := by omega
      exact lp75 _ 0 _ _ rfl (by omega) hO
    · refine wm_iconst hC (pc := 12) dL_seen_12 ?_
      refine wm_istore hC  (pc := 13) dL_seen_13  (by decide) rfl ?_
      have lp15 : ∀ (n : Nat) (i : Nat) (w : mW), n = 16 - i → i ≤ 16 → Ob w P Hs tx V → Wm l G K 7 5 (qJ (fun z w' => z = seenA P ∧ Ob w' P Hs tx V)) 15 [some (mvR 0), some (mvJ (seenR P k (seenS P k) i)), none, some (mvI (k : Int)), some (mvI (i : Int))] [] w := by
        intro n
        induction n using Nat.strongRecOn with
        | _ n ih =>
        intro i w hn2 hi hO
        refine wm_iload hC  (pc := 15) dL_seen_15 rfl ?_
        refine wm_bipush hC (pc := 17) dL_seen_17 (by decide) ?_
        refine wm_icmp_ge hC 67 (pc := 19) dL_seen_19 (by decide) (by omega) (by omega) (fun h19 => ?_) (fun h19 => ?_)
        · refine wm_iinc hC (pc := 67) dL_seen_67 rfl rfl (by decide) rfl ?_
          refine wm_goto hC 6 (pc := 70) dL_seen_70 (by decide) ?_
          obtain rfl : i = 16 := by omega
          exact ihO _ (by omega) (k + 1) _ _ rfl (by omega) hO
        · refine wm_ldc2 hC (31) kJ_L_11 (pc := 22) dL_seen_22 ?_
          refine wm_lload_n hC 1 (pc := 25) dL_seen_25 rfl rfl ?_
          refine wm_lmul hC (pc := 26) dL_seen_26 ?_
          refine wm_iload hC  (pc := 27) dL_seen_27 rfl ?_
          refine wm_iconst hC (pc := 29) dL_seen_29 ?_
          refine wm_icmp_le hC 44 (pc := 30) dL_seen_30 (by decide) (by omega) (by omega) (fun h30 => ?_) (fun h30 => ?_)
          · refine wm_aload_n hC 0 (pc := 44) dL_seen_44 rfl rfl ?_
            refine wm_iload_n hC 3 (pc := 45) dL_seen_45 rfl rfl ?_
            refine wm_bipush hC (pc := 46) dL_seen_46 (by decide) ?_
            refine wm_idiv hC (pc := 48) dL_seen_48 (by omega) (by omega) ?_
            refine wm_iload_n hC 3 (pc := 49) dL_seen_49 rfl rfl ?_
            refine wm_bipush hC (pc := 50) dL_seen_50 (by decide) ?_
            refine wm_irem hC (pc := 52) dL_seen_52 (by omega) (by omega) ?_
            refine wm_iload hC  (pc := 53) dL_seen_53 rfl ?_
            refine wm_iV hC cv_L_13 kc_X8_stateOf rfl rfl (t_stateOfV hO (by omega)) rfl (by decide) rfl (Nat.le_of_ble_eq_true rfl) (pc := 55) dL_seen_55 (fun z55 w55 hw55 => ?_)
            obtain ⟨e55, hO⟩ := hw55
            refine wm_i2l hC (pc := 58) dL_seen_58 ?_
            refine wm_ladd hC (pc := 59) dL_seen_59 ?_
            refine wm_lstore_n hC 1 (pc := 60) dL_seen_60 rfl (by decide) rfl ?_
            refine wm_iinc hC (pc := 61) dL_seen_61 rfl rfl (by decide) rfl ?_
            refine wm_goto hC 15 (pc := 64) dL_seen_64 (by decide) ?_
            have e : seenR P k (seenS P k) (i + 1) = 31 * seenR P k (seenS P k) i + i2J (if 3 < (i : Int) ∧ (i : Int) < 10 then 0 else stateA P ((k : Int) / 8) ((k : Int) % 8) (i : Int)) := rfl
            have hh := ih _ (by omega) (i + 1) _ rfl (by omega) hO
            rw [e] at hh
            first | (rw [if_pos (by omega)] at hh; exact hh) | (rw [if_neg (by omega), ← e55] at hh; exact hh)
          · refine wm_iload hC  (pc := 33) dL_seen_33 rfl ?_
            refine wm_bipush hC (pc := 35) dL_seen_35 (by decide) ?_
            refine wm_icmp_ge hC 44 (pc := 37) dL_seen_37 (by decide) (by omega) (by omega) (fun h37 => ?_) (fun h37 => ?_)
            · refine wm_aload_n hC 0 (pc := 44) dL_seen_44 rfl rfl ?_
              refine wm_iload_n hC 3 (pc := 45) dL_seen_45 rfl rfl ?_
              refine wm_bipush hC (pc := 46) dL_seen_46 (by decide) ?_
              refine wm_idiv hC (pc := 48) dL_seen_48 (by omega) (by omega) ?_
              refine wm_iload_n hC 3 (pc := 49) dL_seen_49 rfl rfl ?_
              refine wm_bipush hC (pc := 50) dL_seen_50 (by decide) ?_
              refine wm_irem hC (pc := 52) dL_seen_52 (by omega) (by omega) ?_
              refine wm_iload hC  (pc := 53) dL_seen_53 rfl ?_
              refine wm_iV hC cv_L_13 kc_X8_stateOf rfl rfl (t_stateOfV hO (by omega)) rfl (by decide) rfl (Nat.le_of_ble_eq_true rfl) (pc := 55) dL_seen_55 (fun z55 w55 hw55 => ?_)
              obtain ⟨e55, hO⟩ := hw55
              refine wm_i2l hC (pc := 58) dL_seen_58 ?_
              refine wm_ladd hC (pc := 59) dL_seen_59 ?_
              refine wm_lstore_n hC 1 (pc := 60) dL_seen_60 rfl (by decide) rfl ?_
              refine wm_iinc hC (pc := 61) dL_seen_61 rfl rfl (by decide) rfl ?_
              refine wm_goto hC 15 (pc := 64) dL_seen_64 (by decide) ?_
              have e : seenR P k (seenS P k) (i + 1) = 31 * seenR P k (seenS P k) i + i2J (if 3 < (i : Int) ∧ (i : Int) < 10 then 0 else stateA P ((k : Int) / 8) ((k : Int) % 8) (i : Int)) := rfl
              have hh := ih _ (by omega) (i + 1) _ rfl (by omega) hO
              rw [e] at hh
              first | (rw [if_pos (by omega)] at hh; exact hh) | (rw [if_neg (by omega), ← e55] at hh; exact hh)
            · refine wm_iconst hC (pc := 40) dL_seen_40 ?_
              refine wm_goto hC 58 (pc := 41) dL_seen_41 (by decide) ?_
              refine wm_i2l hC (pc := 58) dL_seen_58 ?_
              refine wm_ladd hC (pc := 59) dL_seen_59 ?_
              refine wm_lstore_n hC 1 (pc := 60) dL_seen_60 rfl (by decide) rfl ?_
              refine wm_iinc hC (pc := 61) dL_seen_61 rfl rfl (by decide) rfl ?_
              refine wm_goto hC 15 (pc := 64) dL_seen_64 (by decide) ?_
              have e : seenR P k (seenS P k) (i + 1) = 31 * seenR P k (seenS P k) i + i2J (if 3 < (i : Int) ∧ (i : Int) < 10 then 0 else stateA P ((k : Int) / 8) ((k : Int) % 8) (i : Int)) := rfl
              have hh := ih _ (by omega) (i + 1) _ rfl (by omega) hO
              rw [e] at hh
              first | (rw [if_pos (by omega)] at hh; exact hh) | (rw [if_neg (by omega), ← e55] at hh; exact hh)
      exact lp15 _ 0 _ rfl (by omega) hO
  exact lp6 _ 0 none w rfl (by omega) hO
set_option maxRecDepth 100000 in
set_option maxHeartbeats 4000000 in
theorem t_puts {l : Launch} {G : mG} {w : mW} {P : Pn} {Hs : List Pn} {tx : List Int} {V : Int → Int} (hO : Ob w P Hs tx V) {W : Int} (hb : okW W = true) (hl : tx.length + 8 ≤ 80) : Mx l G 2 yL_puts cL_puts 6 (some .boolean) [mvR 0, mvJ W] w (qI (fun z w' => z = 1 ∧ Ob w' P Hs (tx ++ bys W 8) V)) := by
  refine Mx.intro (by decide) RL rfl [some (mvR 0), some (mvJ W), none, none, none, none] (Nat.le_of_ble_eq_true rfl) rfl (fun K hC => ?_)
  refine wm_iconst hC (pc := 0) dL_puts_0 ?_
  refine wm_istore_n hC 3 (pc := 1) dL_puts_1 rfl (by decide) rfl ?_
  refine wm_bipush hC (pc := 2) dL_puts_2 (by decide) ?_
  refine wm_istore hC  (pc := 4) dL_puts_4  (by decide) rfl ?_
  have lp6 : ∀ (n : Nat) (j : Nat) (x5 : Option mV) (w : mW), n = 8 - j → j ≤ 8 → Ob w P Hs (tx ++ bys W j) V → Wm l G K 2 6 (qI (fun z w' => z = 1 ∧ Ob w' P Hs (tx ++ bys W 8) V)) 6 [some (mvR 0), some (mvJ W), none, some (mvI 1), some (mvI (56 - 8 * (j : Int))), x5] [] w := by
    intro n
    induction n using Nat.strongRecOn with
    | _ n ih =>
    intro j x5 w hn hj hO
    refine wm_iload hC  (pc := 6) dL_puts_6 rfl ?_
    refine wm_if_lt hC 52 (pc := 8) dL_puts_8 (by decide) (by omega) (fun h8 => ?_) (fun h8 => ?_)
    · refine wm_iload_n hC 3 (pc := 52) dL_puts_52 rfl rfl ?_
      refine wm_zretI hC (pc := 53) dL_puts_53 (by decide) ?_
      obtain rfl : j = 8 := by omega
      exact ⟨rfl, hO⟩
    · refine wm_lload_n hC 1 (pc := 11) dL_puts_11 rfl rfl ?_
      refine wm_iload hC  (pc := 12) dL_puts_12 rfl ?_
      refine wm_lshr hC (pc := 14) dL_puts_14 ?_
      refine wm_ldc2 hC (255) kJ_L_82 (pc := 15) dL_puts_15 ?_
      refine wm_land hC (pc := 18) dL_puts_18 ?_
      refine wm_l2i hC (pc := 19) dL_puts_19 ?_
      refine wm_istore hC  (pc := 20) dL_puts_20  (by decide) rfl ?_
      refine wm_iload hC  (pc := 22) dL_puts_22 rfl ?_
      refine wm_if_le hC 46 (pc := 24) dL_puts_24 (by decide) (l2iI_rng _) (fun h24 => ?_) (fun h24 => ?_)
      · refine wm_iinc hC (v := 56 - 8 * ((j + 1 : Nat) : Int)) (pc := 46) dL_puts_46 rfl (by omega) (by decide) rfl ?_
        refine wm_goto hC 6 (pc := 49) dL_puts_49 (by decide) ?_
        refine ih _ (by omega) (j + 1) _ _ rfl (by omega) ?_
        first | (rw [bys_n h24]; exact hO) | (rw [bys_p h24, ← List.append_assoc]; exact hO)
      · refine wm_iload_n hC 3 (pc := 27) dL_puts_27 rfl rfl ?_
        refine wm_if_eq hC 44 (pc := 28) dL_puts_28 (by decide) (by omega) (fun h => absurd h (by decide)) (fun _ => ?_)
        refine wm_aload_n hC 0 (pc := 31) dL_puts_31 rfl rfl ?_
        refine wm_iload hC  (pc := 32) dL_puts_32 rfl ?_
        refine wm_iV hC cv_L_68 kc_X8_type rfl rfl (t_typeV hO (okW_at hb (by omega) h24) (by have := bys_len W j; rw [List.length_append]; omega)) rfl (by decide) rfl (Nat.le_of_ble_eq_true rfl) (pc := 34) dL_puts_34 (fun z34 w34 hw34 => ?_)
        obtain ⟨e34, hO⟩ := hw34
        refine wm_if_le hC 44 (pc := 37) dL_puts_37 (by decide) (by have := bys_len W j; rw [List.length_append] at e34; omega) (fun h37 => ?_) (fun h37 => ?_)
        · exact absurd h37 (by rw [e34]; omega)
        · refine wm_iconst hC (pc := 40) dL_puts_40 ?_
          refine wm_goto hC 45 (pc := 41) dL_puts_41 (by decide) ?_
          refine wm_istore_n hC 3 (pc := 45) dL_puts_45 rfl (by decide) rfl ?_
          refine wm_iinc hC (v := 56 - 8 * ((j + 1 : Nat) : Int)) (pc := 46) dL_puts_46 rfl (by omega) (by decide) rfl ?_
          refine wm_goto hC 6 (pc := 49) dL_puts_49 (by decide) ?_
          refine ih _ (by omega) (j + 1) _ _ rfl (by omega) ?_
          first | (rw [bys_n h24]; exact hO) | (rw [bys_p h24, ← List.append_assoc]; exact hO)
  exact lp6 _ 0 none w rfl (by omega) (by show Ob w P Hs (tx ++ []) V; rw [List.append_nil]; exact hO)
set_option maxRecDepth 100000 in
set_option maxHeartbeats 4000000 in
theorem t_refusesAnyM {l : Launch} {G : mG} {w : mW} {P : Pn} {Hs : List Pn} {tx : List Int} {V : Int → Int} (hO : Ob w P Hs tx V) : Mx l G 7 yL_refusesAny cL_refusesAny 5 (some .boolean) [mvR 0, mvI (-1)] w (qI (fun z w' => z = 1 ∧ Ob w' P Hs tx V)) := by
  refine Mx.intro (by decide) RL rfl [some (mvR 0), some (mvI (-1)), none, none, none] (Nat.le_of_ble_eq_true rfl) rfl (fun K hC => ?_)
  refine wm_iload_n hC 1 (pc := 0) dL_refusesAny_0 rfl rfl ?_
  refine wm_if_ge hC 8 (pc := 1) dL_refusesAny_1 (by decide) (by omega) (fun h => absurd h (by decide)) (fun _ => ?_)
  refine wm_iconst hC (pc := 4) dL_refusesAny_4 ?_
  refine wm_goto hC 10 (pc := 5) dL_refusesAny_5 (by decide) ?_
  refine wm_istore_n hC 2 (pc := 10) dL_refusesAny_10 rfl (by decide) rfl ?_
  refine wm_iload_n hC 1 (pc := 11) dL_refusesAny_11 rfl rfl ?_
  refine wm_if_ge hC 19 (pc := 12) dL_refusesAny_12 (by decide) (by omega) (fun h => absurd h (by decide)) (fun _ => ?_)
  refine wm_iconst hC (pc := 15) dL_refusesAny_15 ?_
  refine wm_goto hC 21 (pc := 16) dL_refusesAny_16 (by decide) ?_
  refine wm_istore_n hC 3 (pc := 21) dL_refusesAny_21 rfl (by decide) rfl ?_
  refine wm_iload_n hC 1 (pc := 22) dL_refusesAny_22 rfl rfl ?_
  refine wm_if_ge hC 30 (pc := 23) dL_refusesAny_23 (by decide) (by omega) (fun h => absurd h (by decide)) (fun _ => ?_)
  refine wm_iconst hC (pc := 26) dL_refusesAny_26 ?_
  refine wm_goto hC 31 (pc := 27) dL_refusesAny_27 (by decide) ?_
  refine wm_istore hC  (pc := 31) dL_refusesAny_31  (by decide) rfl ?_
  refine wm_aload_n hC 0 (pc := 33) dL_refusesAny_33 rfl rfl ?_
  refine wm_iload hC  (pc := 34) dL_refusesAny_34 rfl ?_
  refine wm_iconst hC (pc := 36) dL_refusesAny_36 ?_
  refine wm_iconst hC (pc := 37) dL_refusesAny_37 ?_
  refine wm_iV hC cv_L_26 kc_X8_kind rfl rfl (t_kindN hO (by omega) (by omega) (by omega) (by decide)) rfl (by decide) rfl (Nat.le_of_ble_eq_true rfl) (pc := 38) dL_refusesAny_38 (fun z38 w38 hw38 => ?_)
  obtain ⟨rfl, hO⟩ := hw38
  refine wm_ldc hC (-1000001) kI_L_31 (pc := 41) dL_refusesAny_41 ?_
  refine wm_icmp_ne hC 124 (pc := 43) dL_refusesAny_43 (by decide) (by omega) (by omega) (fun h => absurd h (by decide)) (fun _ => ?_)
  refine wm_aload_n hC 0 (pc := 46) dL_refusesAny_46 rfl rfl ?_
  refine wm_iconst hC (pc := 47) dL_refusesAny_47 ?_
  refine wm_iload_n hC 2 (pc := 48) dL_refusesAny_48 rfl rfl ?_
  refine wm_iconst hC (pc := 49) dL_refusesAny_49 ?_
  refine wm_iV hC cv_L_26 kc_X8_kind rfl rfl (t_kindN hO (by omega) (by omega) (by omega) (by decide)) rfl (by decide) rfl (Nat.le_of_ble_eq_true rfl) (pc := 50) dL_refusesAny_50 (fun z50 w50 hw50 => ?_)
  obtain ⟨rfl, hO⟩ := hw50
  refine wm_ldc hC (-1000001) kI_L_31 (pc := 53) dL_refusesAny_53 ?_
  refine wm_icmp_ne hC 124 (pc := 55) dL_refusesAny_55 (by decide) (by omega) (by omega) (fun h => absurd h (by decide)) (fun _ => ?_)
  refine wm_aload_n hC 0 (pc := 58) dL_refusesAny_58 rfl rfl ?_
  refine wm_iconst hC (pc := 59) dL_refusesAny_59 ?_
  refine wm_iconst hC (pc := 60) dL_refusesAny_60 ?_
  refine wm_iload hC  (pc := 61) dL_refusesAny_61 rfl ?_
  refine wm_iV hC cv_L_26 kc_X8_kind rfl rfl (t_kindN hO (by omega) (by omega) (by omega) (by decide)) rfl (by decide) rfl (Nat.le_of_ble_eq_true rfl) (pc := 63) dL_refusesAny_63 (fun z63 w63 hw63 => ?_)
  obtain ⟨rfl, hO⟩ := hw63
  refine wm_ldc hC (-1000001) kI_L_31 (pc := 66) dL_refusesAny_66 ?_
  refine wm_icmp_ne hC 124 (pc := 68) dL_refusesAny_68 (by decide) (by omega) (by omega) (fun h => absurd h (by decide)) (fun _ => ?_)
  refine wm_aload_n hC 0 (pc := 71) dL_refusesAny_71 rfl rfl ?_
  refine wm_iload hC  (pc := 72) dL_refusesAny_72 rfl ?_
  refine wm_iconst hC (pc := 74) dL_refusesAny_74 ?_
  refine wm_iconst hC (pc := 75) dL_refusesAny_75 ?_
  refine wm_iconst hC (pc := 76) dL_refusesAny_76 ?_
  refine wm_iV hC cv_L_32 kc_X8_arrow rfl rfl (t_arrowN hO (by omega) (by omega) (by omega) (by omega) (by decide)) rfl (by decide) rfl (Nat.le_of_ble_eq_true rfl) (pc := 77) dL_refusesAny_77 (fun z77 w77 hw77 => ?_)
  obtain ⟨rfl, hO⟩ := hw77
  refine wm_ldc hC (-1000001) kI_L_31 (pc := 80) dL_refusesAny_80 ?_
  refine wm_icmp_ne hC 124 (pc := 82) dL_refusesAny_82 (by decide) (by omega) (by omega) (fun h => absurd h (by decide)) (fun _ => ?_)
  refine wm_aload_n hC 0 (pc := 85) dL_refusesAny_85 rfl rfl ?_
  refine wm_iconst hC (pc := 86) dL_refusesAny_86 ?_
  refine wm_iload_n hC 2 (pc := 87) dL_refusesAny_87 rfl rfl ?_
  refine wm_iconst hC (pc := 88) dL_refusesAny_88 ?_
  refine wm_iconst hC (pc := 89) dL_refusesAny_89 ?_
  refine wm_iV hC cv_L_32 kc_X8_arrow rfl rfl (t_arrowN hO (by omega) (by omega) (by omega) (by omega) (by decide)) rfl (by decide) rfl (Nat.le_of_ble_eq_true rfl) (pc := 90) dL_refusesAny_90 (fun z90 w90 hw90 => ?_)
  obtain ⟨rfl, hO⟩ := hw90
  refine wm_ldc hC (-1000001) kI_L_31 (pc := 93) dL_refusesAny_93 ?_
  refine wm_icmp_ne hC 124 (pc := 95) dL_refusesAny_95 (by decide) (by omega) (by omega) (fun h => absurd h (by decide)) (fun _ => ?_)
  refine wm_aload_n hC 0 (pc := 98) dL_refusesAny_98 rfl rfl ?_
  refine wm_iconst hC (pc := 99) dL_refusesAny_99 ?_
  refine wm_iconst hC (pc := 100) dL_refusesAny_100 ?_
  refine wm_iload_n hC 3 (pc := 101) dL_refusesAny_101 rfl rfl ?_
  refine wm_iconst hC (pc := 102) dL_refusesAny_102 ?_
  refine wm_iV hC cv_L_32 kc_X8_arrow rfl rfl (t_arrowN hO (by omega) (by omega) (by omega) (by omega) (by decide)) rfl (by decide) rfl (Nat.le_of_ble_eq_true rfl) (pc := 103) dL_refusesAny_103 (fun z103 w103 hw103 => ?_)
  obtain ⟨rfl, hO⟩ := hw103
  refine wm_ldc hC (-1000001) kI_L_31 (pc := 106) dL_refusesAny_106 ?_
  refine wm_icmp_ne hC 124 (pc := 108) dL_refusesAny_108 (by decide) (by omega) (by omega) (fun h => absurd h (by decide)) (fun _ => ?_)
  refine wm_aload_n hC 0 (pc := 111) dL_refusesAny_111 rfl rfl ?_
  refine wm_iconst hC (pc := 112) dL_refusesAny_112 ?_
  refine wm_iconst hC (pc := 113) dL_refusesAny_113 ?_
  refine wm_iconst hC (pc := 114) dL_refusesAny_114 ?_
  refine wm_iload_n hC 2 (pc := 115) dL_refusesAny_115 rfl rfl ?_
  refine wm_iV hC cv_L_32 kc_X8_arrow rfl rfl (t_arrowN hO (by omega) (by omega) (by omega) (by omega) (by decide)) rfl (by decide) rfl (Nat.le_of_ble_eq_true rfl) (pc := 116) dL_refusesAny_116 (fun z116 w116 hw116 => ?_)
  obtain ⟨rfl, hO⟩ := hw116
  refine wm_ldc hC (-1000001) kI_L_31 (pc := 119) dL_refusesAny_119 ?_
  refine wm_icmp_eq hC 126 (pc := 121) dL_refusesAny_121 (by decide) (by omega) (by omega) (fun _ => ?_) (fun h => absurd h (by decide))
  refine wm_aload_n hC 0 (pc := 126) dL_refusesAny_126 rfl rfl ?_
  refine wm_iload hC  (pc := 127) dL_refusesAny_127 rfl ?_
  refine wm_iconst hC (pc := 129) dL_refusesAny_129 ?_
  refine wm_iconst hC (pc := 130) dL_refusesAny_130 ?_
  refine wm_iV hC cv_L_36 kc_X8_erase rfl rfl (t_eraseN hO (by omega) (by omega) (by omega) (by decide)) rfl (by decide) rfl (Nat.le_of_ble_eq_true rfl) (pc := 131) dL_refusesAny_131 (fun z131 w131 hw131 => ?_)
  obtain ⟨rfl, hO⟩ := hw131
  refine wm_ldc hC (-1000001) kI_L_31 (pc := 134) dL_refusesAny_134 ?_
  refine wm_icmp_ne hC 231 (pc := 136) dL_refusesAny_136 (by decide) (by omega) (by omega) (fun h => absurd h (by decide)) (fun _ => ?_)
  refine wm_aload_n hC 0 (pc := 139) dL_refusesAny_139 rfl rfl ?_
  refine wm_iconst hC (pc := 140) dL_refusesAny_140 ?_
  refine wm_iload_n hC 2 (pc := 141) dL_refusesAny_141 rfl rfl ?_
  refine wm_iconst hC (pc := 142) dL_refusesAny_142 ?_
  refine wm_iV hC cv_L_36 kc_X8_erase rfl rfl (t_eraseN hO (by omega) (by omega) (by omega) (by decide)) rfl (by decide) rfl (Nat.le_of_ble_eq_true rfl) (pc := 143) dL_refusesAny_143 (fun z143 w143 hw143 => ?_)
  obtain ⟨rfl, hO⟩ := hw143
  refine wm_ldc hC (-1000001) kI_L_31 (pc := 146) dL_refusesAny_146 ?_
  refine wm_icmp_ne hC 231 (pc := 148) dL_refusesAny_148 (by decide) (by omega) (by omega) (fun h => absurd h (by decide)) (fun _ => ?_)
  refine wm_aload_n hC 0 (pc := 151) dL_refusesAny_151 rfl rfl ?_
  refine wm_iconst hC (pc := 152) dL_refusesAny_152 ?_
  refine wm_iconst hC (pc := 153) dL_refusesAny_153 ?_
  refine wm_iload_n hC 3 (pc := 154) dL_refusesAny_154 rfl rfl ?_
  refine wm_iV hC cv_L_36 kc_X8_erase rfl rfl (t_eraseN hO (by omega) (by omega) (by omega) (by decide)) rfl (by decide) rfl (Nat.le_of_ble_eq_true rfl) (pc := 155) dL_refusesAny_155 (fun z155 w155 hw155 => ?_)
  obtain ⟨rfl, hO⟩ := hw155
  refine wm_ldc hC (-1000001) kI_L_31 (pc := 158) dL_refusesAny_158 ?_
  refine wm_icmp_ne hC 231 (pc := 160) dL_refusesAny_160 (by decide) (by omega) (by omega) (fun h => absurd h (by decide)) (fun _ => ?_)
  refine wm_aload_n hC 0 (pc := 163) dL_refusesAny_163 rfl rfl ?_
  refine wm_iload hC  (pc := 164) dL_refusesAny_164 rfl ?_
  refine wm_iconst hC (pc := 166) dL_refusesAny_166 ?_
  refine wm_iV hC cv_L_39 kc_X8_copy rfl rfl (t_copyN hO (by omega) (by omega) (by decide)) rfl (by decide) rfl (Nat.le_of_ble_eq_true rfl) (pc := 167) dL_refusesAny_167 (fun z167 w167 hw167 => ?_)
  obtain ⟨rfl, hO⟩ := hw167
  refine wm_ldc hC (-1000001) kI_L_31 (pc := 170) dL_refusesAny_170 ?_
  refine wm_icmp_ne hC 231 (pc := 172) dL_refusesAny_172 (by decide) (by omega) (by omega) (fun h => absurd h (by decide)) (fun _ => ?_)
  refine wm_aload_n hC 0 (pc := 175) dL_refusesAny_175 rfl rfl ?_
  refine wm_iconst hC (pc := 176) dL_refusesAny_176 ?_
  refine wm_iload hC  (pc := 177) dL_refusesAny_177 rfl ?_
  refine wm_iV hC cv_L_39 kc_X8_copy rfl rfl (t_copyN hO (by omega) (by omega) (by decide)) rfl (by decide) rfl (Nat.le_of_ble_eq_true rfl) (pc := 179) dL_refusesAny_179 (fun z179 w179 hw179 => ?_)
  obtain ⟨rfl, hO⟩ := hw179
  refine wm_ldc hC (-1000001) kI_L_31 (pc := 182) dL_refusesAny_182 ?_
  refine wm_icmp_ne hC 231 (pc := 184) dL_refusesAny_184 (by decide) (by omega) (by omega) (fun h => absurd h (by decide)) (fun _ => ?_)
  refine wm_aload_n hC 0 (pc := 187) dL_refusesAny_187 rfl rfl ?_
  refine wm_iconst hC (pc := 188) dL_refusesAny_188 ?_
  refine wm_iconst hC (pc := 189) dL_refusesAny_189 ?_
  refine wm_iV hC cv_L_39 kc_X8_copy rfl rfl (t_copyN hO (by omega) (by omega) (by decide)) rfl (by decide) rfl (Nat.le_of_ble_eq_true rfl) (pc := 190) dL_refusesAny_190 (fun z190 w190 hw190 => ?_)
  obtain ⟨rfl, hO⟩ := hw190
  refine wm_ldc hC (-1000001) kI_L_31 (pc := 193) dL_refusesAny_193 ?_
  refine wm_icmp_ne hC 231 (pc := 195) dL_refusesAny_195 (by decide) (by omega) (by omega) (fun h => absurd h (by decide)) (fun _ => ?_)
  refine wm_aload_n hC 0 (pc := 198) dL_refusesAny_198 rfl rfl ?_
  refine wm_iload hC  (pc := 199) dL_refusesAny_199 rfl ?_
  refine wm_iV hC cv_L_43 kc_X8_mirror rfl rfl (t_mirrorN hO (by omega) (by decide)) rfl (by decide) rfl (Nat.le_of_ble_eq_true rfl) (pc := 201) dL_refusesAny_201 (fun z201 w201 hw201 => ?_)
  obtain ⟨rfl, hO⟩ := hw201
  refine wm_ldc hC (-1000001) kI_L_31 (pc := 204) dL_refusesAny_204 ?_
  refine wm_icmp_ne hC 231 (pc := 206) dL_refusesAny_206 (by decide) (by omega) (by omega) (fun h => absurd h (by decide)) (fun _ => ?_)
  refine wm_aload_n hC 0 (pc := 209) dL_refusesAny_209 rfl rfl ?_
  refine wm_iload hC  (pc := 210) dL_refusesAny_210 rfl ?_
  refine wm_iV hC cv_L_46 kc_X8_unlike rfl rfl (t_unlikeN hO (by omega) (by decide)) rfl (by decide) rfl (Nat.le_of_ble_eq_true rfl) (pc := 212) dL_refusesAny_212 (fun z212 w212 hw212 => ?_)
  obtain ⟨rfl, hO⟩ := hw212
  refine wm_ldc hC (-1000001) kI_L_31 (pc := 215) dL_refusesAny_215 ?_
  refine wm_icmp_ne hC 231 (pc := 217) dL_refusesAny_217 (by decide) (by omega) (by omega) (fun h => absurd h (by decide)) (fun _ => ?_)
  refine wm_aload_n hC 0 (pc := 220) dL_refusesAny_220 rfl rfl ?_
  refine wm_iload hC  (pc := 221) dL_refusesAny_221 rfl ?_
  refine wm_iV hC cv_L_49 kc_X8_read rfl rfl (t_readN hO (by omega) (by decide)) rfl (by decide) rfl (Nat.le_of_ble_eq_true rfl) (pc := 223) dL_refusesAny_223 (fun z223 w223 hw223 => ?_)
  obtain ⟨rfl, hO⟩ := hw223
  refine wm_ldc hC (-1000001) kI_L_31 (pc := 226) dL_refusesAny_226 ?_
  refine wm_icmp_eq hC 233 (pc := 228) dL_refusesAny_228 (by decide) (by omega) (by omega) (fun _ => ?_) (fun h => absurd h (by decide))
  refine wm_aload_n hC 0 (pc := 233) dL_refusesAny_233 rfl rfl ?_
  refine wm_iload hC  (pc := 234) dL_refusesAny_234 rfl ?_
  refine wm_iconst hC (pc := 236) dL_refusesAny_236 ?_
  refine wm_iconst hC (pc := 237) dL_refusesAny_237 ?_
  refine wm_iV hC cv_L_13 kc_X8_stateOf rfl rfl (t_stateOfN hO (by omega) (by omega) (by omega) (by decide)) rfl (by decide) rfl (Nat.le_of_ble_eq_true rfl) (pc := 238) dL_refusesAny_238 (fun z238 w238 hw238 => ?_)
  obtain ⟨rfl, hO⟩ := hw238
  refine wm_ldc hC (-1000001) kI_L_31 (pc := 241) dL_refusesAny_241 ?_
  refine wm_icmp_ne hC 376 (pc := 243) dL_refusesAny_243 (by decide) (by omega) (by omega) (fun h => absurd h (by decide)) (fun _ => ?_)
  refine wm_aload_n hC 0 (pc := 246) dL_refusesAny_246 rfl rfl ?_
  refine wm_iconst hC (pc := 247) dL_refusesAny_247 ?_
  refine wm_iload_n hC 2 (pc := 248) dL_refusesAny_248 rfl rfl ?_
  refine wm_iconst hC (pc := 249) dL_refusesAny_249 ?_
  refine wm_iV hC cv_L_13 kc_X8_stateOf rfl rfl (t_stateOfN hO (by omega) (by omega) (by omega) (by decide)) rfl (by decide) rfl (Nat.le_of_ble_eq_true rfl) (pc := 250) dL_refusesAny_250 (fun z250 w250 hw250 => ?_)
  obtain ⟨rfl, hO⟩ := hw250
  refine wm_ldc hC (-1000001) kI_L_31 (pc := 253) dL_refusesAny_253 ?_
  refine wm_icmp_ne hC 376 (pc := 255) dL_refusesAny_255 (by decide) (by omega) (by omega) (fun h => absurd h (by decide)) (fun _ => ?_)
  refine wm_aload_n hC 0 (pc := 258) dL_refusesAny_258 rfl rfl ?_
  refine wm_iconst hC (pc := 259) dL_refusesAny_259 ?_
  refine wm_iconst hC (pc := 260) dL_refusesAny_260 ?_
  refine wm_iload_n hC 1 (pc := 261) dL_refusesAny_261 rfl rfl ?_
  refine wm_if_ge hC 269 (pc := 262) dL_refusesAny_262 (by decide) (by omega) (fun h => absurd h (by decide)) (fun _ => ?_)
  refine wm_iconst hC (pc := 265) dL_refusesAny_265 ?_
  refine wm_goto hC 271 (pc := 266) dL_refusesAny_266 (by decide) ?_
  refine wm_iV hC cv_L_13 kc_X8_stateOf rfl rfl (t_stateOfN hO (by omega) (by omega) (by omega) (by decide)) rfl (by decide) rfl (Nat.le_of_ble_eq_true rfl) (pc := 271) dL_refusesAny_271 (fun z271 w271 hw271 => ?_)
  obtain ⟨rfl, hO⟩ := hw271
  refine wm_ldc hC (-1000001) kI_L_31 (pc := 274) dL_refusesAny_274 ?_
  refine wm_icmp_ne hC 376 (pc := 276) dL_refusesAny_276 (by decide) (by omega) (by omega) (fun h => absurd h (by decide)) (fun _ => ?_)
  refine wm_aload_n hC 0 (pc := 279) dL_refusesAny_279 rfl rfl ?_
  refine wm_iload hC  (pc := 280) dL_refusesAny_280 rfl ?_
  refine wm_iconst hC (pc := 282) dL_refusesAny_282 ?_
  refine wm_iconst hC (pc := 283) dL_refusesAny_283 ?_
  refine wm_iconst hC (pc := 284) dL_refusesAny_284 ?_
  refine wm_iV hC cv_L_52 kc_X8_pairOf rfl rfl (t_pairOfN hO (by omega) (by omega) (by omega) (by omega) (by decide)) rfl (by decide) rfl (Nat.le_of_ble_eq_true rfl) (pc := 285) dL_refusesAny_285 (fun z285 w285 hw285 => ?_)
  obtain ⟨rfl, hO⟩ := hw285
  refine wm_ldc hC (-1000001) kI_L_31 (pc := 288) dL_refusesAny_288 ?_
  refine wm_icmp_ne hC 376 (pc := 290) dL_refusesAny_290 (by decide) (by omega) (by omega) (fun h => absurd h (by decide)) (fun _ => ?_)
  refine wm_aload_n hC 0 (pc := 293) dL_refusesAny_293 rfl rfl ?_
  refine wm_iconst hC (pc := 294) dL_refusesAny_294 ?_
  refine wm_iload hC  (pc := 295) dL_refusesAny_295 rfl ?_
  refine wm_iconst hC (pc := 297) dL_refusesAny_297 ?_
  refine wm_iconst hC (pc := 298) dL_refusesAny_298 ?_
  refine wm_iV hC cv_L_52 kc_X8_pairOf rfl rfl (t_pairOfN hO (by omega) (by omega) (by omega) (by omega) (by decide)) rfl (by decide) rfl (Nat.le_of_ble_eq_true rfl) (pc := 299) dL_refusesAny_299 (fun z299 w299 hw299 => ?_)
  obtain ⟨rfl, hO⟩ := hw299
  refine wm_ldc hC (-1000001) kI_L_31 (pc := 302) dL_refusesAny_302 ?_
  refine wm_icmp_ne hC 376 (pc := 304) dL_refusesAny_304 (by decide) (by omega) (by omega) (fun h => absurd h (by decide)) (fun _ => ?_)
  refine wm_aload_n hC 0 (pc := 307) dL_refusesAny_307 rfl rfl ?_
  refine wm_iconst hC (pc := 308) dL_refusesAny_308 ?_
  refine wm_iconst hC (pc := 309) dL_refusesAny_309 ?_
  refine wm_iload_n hC 1 (pc := 310) dL_refusesAny_310 rfl rfl ?_
  refine wm_if_ge hC 319 (pc := 311) dL_refusesAny_311 (by decide) (by omega) (fun h => absurd h (by decide)) (fun _ => ?_)
  refine wm_bipush hC (pc := 314) dL_refusesAny_314 (by decide) ?_
  refine wm_goto hC 321 (pc := 316) dL_refusesAny_316 (by decide) ?_
  refine wm_iload_n hC 1 (pc := 321) dL_refusesAny_321 rfl rfl ?_
  refine wm_if_ge hC 329 (pc := 322) dL_refusesAny_322 (by decide) (by omega) (fun h => absurd h (by decide)) (fun _ => ?_)
  refine wm_iconst hC (pc := 325) dL_refusesAny_325 ?_
  refine wm_goto hC 330 (pc := 326) dL_refusesAny_326 (by decide) ?_
  refine wm_iV hC cv_L_52 kc_X8_pairOf rfl rfl (t_pairOfN hO (by omega) (by omega) (by omega) (by omega) (by decide)) rfl (by decide) rfl (Nat.le_of_ble_eq_true rfl) (pc := 330) dL_refusesAny_330 (fun z330 w330 hw330 => ?_)
  obtain ⟨rfl, hO⟩ := hw330
  refine wm_ldc hC (-1000001) kI_L_31 (pc := 333) dL_refusesAny_333 ?_
  refine wm_icmp_ne hC 376 (pc := 335) dL_refusesAny_335 (by decide) (by omega) (by omega) (fun h => absurd h (by decide)) (fun _ => ?_)
  refine wm_aload_n hC 0 (pc := 338) dL_refusesAny_338 rfl rfl ?_
  refine wm_iconst hC (pc := 339) dL_refusesAny_339 ?_
  refine wm_iconst hC (pc := 340) dL_refusesAny_340 ?_
  refine wm_bipush hC (pc := 341) dL_refusesAny_341 (by decide) ?_
  refine wm_iload_n hC 1 (pc := 343) dL_refusesAny_343 rfl rfl ?_
  refine wm_if_ge hC 352 (pc := 344) dL_refusesAny_344 (by decide) (by omega) (fun h => absurd h (by decide)) (fun _ => ?_)
  refine wm_bipush hC (pc := 347) dL_refusesAny_347 (by decide) ?_
  refine wm_goto hC 354 (pc := 349) dL_refusesAny_349 (by decide) ?_
  refine wm_iV hC cv_L_52 kc_X8_pairOf rfl rfl (t_pairOfN hO (by omega) (by omega) (by omega) (by omega) (by decide)) rfl (by decide) rfl (Nat.le_of_ble_eq_true rfl) (pc := 354) dL_refusesAny_354 (fun z354 w354 hw354 => ?_)
  obtain ⟨rfl, hO⟩ := hw354
  refine wm_ldc hC (-1000001) kI_L_31 (pc := 357) dL_refusesAny_357 ?_
  refine wm_icmp_ne hC 376 (pc := 359) dL_refusesAny_359 (by decide) (by omega) (by omega) (fun h => absurd h (by decide)) (fun _ => ?_)
  refine wm_aload_n hC 0 (pc := 362) dL_refusesAny_362 rfl rfl ?_
  refine wm_iconst hC (pc := 363) dL_refusesAny_363 ?_
  refine wm_iconst hC (pc := 364) dL_refusesAny_364 ?_
  refine wm_bipush hC (pc := 365) dL_refusesAny_365 (by decide) ?_
  refine wm_iconst hC (pc := 367) dL_refusesAny_367 ?_
  refine wm_iV hC cv_L_52 kc_X8_pairOf rfl rfl (t_pairOfV hO (by decide) (by decide)) rfl (by decide) rfl (Nat.le_of_ble_eq_true rfl) (pc := 368) dL_refusesAny_368 (fun z368 w368 hw368 => ?_)
  obtain ⟨e368, hO⟩ := hw368
  rw [pair64 hO.2.1] at e368
  subst e368
  refine wm_ldc hC (-1000004) kI_L_55 (pc := 371) dL_refusesAny_371 ?_
  refine wm_icmp_eq hC 378 (pc := 373) dL_refusesAny_373 (by decide) (by omega) (by omega) (fun _ => ?_) (fun h => absurd h (by decide))
  refine wm_aload_n hC 0 (pc := 378) dL_refusesAny_378 rfl rfl ?_
  refine wm_iload hC  (pc := 379) dL_refusesAny_379 rfl ?_
  refine wm_iconst hC (pc := 381) dL_refusesAny_381 ?_
  refine wm_iconst hC (pc := 382) dL_refusesAny_382 ?_
  refine wm_iV hC cv_L_19 kc_X8_talk rfl rfl (t_talkN hO (by omega) (by omega) (by omega) (by decide)) rfl (by decide) rfl (Nat.le_of_ble_eq_true rfl) (pc := 383) dL_refusesAny_383 (fun z383 w383 hw383 => ?_)
  obtain ⟨rfl, hO⟩ := hw383
  refine wm_ldc hC (-1000001) kI_L_31 (pc := 386) dL_refusesAny_386 ?_
  refine wm_icmp_ne hC 477 (pc := 388) dL_refusesAny_388 (by decide) (by omega) (by omega) (fun h => absurd h (by decide)) (fun _ => ?_)
  refine wm_aload_n hC 0 (pc := 391) dL_refusesAny_391 rfl rfl ?_
  refine wm_iconst hC (pc := 392) dL_refusesAny_392 ?_
  refine wm_iload hC  (pc := 393) dL_refusesAny_393 rfl ?_
  refine wm_iconst hC (pc := 395) dL_refusesAny_395 ?_
  refine wm_iV hC cv_L_19 kc_X8_talk rfl rfl (t_talkN hO (by omega) (by omega) (by omega) (by decide)) rfl (by decide) rfl (Nat.le_of_ble_eq_true rfl) (pc := 396) dL_refusesAny_396 (fun z396 w396 hw396 => ?_)
  obtain ⟨rfl, hO⟩ := hw396
  refine wm_ldc hC (-1000001) kI_L_31 (pc := 399) dL_refusesAny_399 ?_
  refine wm_icmp_ne hC 477 (pc := 401) dL_refusesAny_401 (by decide) (by omega) (by omega) (fun h => absurd h (by decide)) (fun _ => ?_)
  refine wm_aload_n hC 0 (pc := 404) dL_refusesAny_404 rfl rfl ?_
  refine wm_iconst hC (pc := 405) dL_refusesAny_405 ?_
  refine wm_iconst hC (pc := 406) dL_refusesAny_406 ?_
  refine wm_iload_n hC 1 (pc := 407) dL_refusesAny_407 rfl rfl ?_
  refine wm_if_ge hC 415 (pc := 408) dL_refusesAny_408 (by decide) (by omega) (fun h => absurd h (by decide)) (fun _ => ?_)
  refine wm_iconst hC (pc := 411) dL_refusesAny_411 ?_
  refine wm_goto hC 417 (pc := 412) dL_refusesAny_412 (by decide) ?_
  refine wm_iV hC cv_L_19 kc_X8_talk rfl rfl (t_talkN hO (by omega) (by omega) (by omega) (by decide)) rfl (by decide) rfl (Nat.le_of_ble_eq_true rfl) (pc := 417) dL_refusesAny_417 (fun z417 w417 hw417 => ?_)
  obtain ⟨rfl, hO⟩ := hw417
  refine wm_ldc hC (-1000001) kI_L_31 (pc := 420) dL_refusesAny_420 ?_
  refine wm_icmp_ne hC 477 (pc := 422) dL_refusesAny_422 (by decide) (by omega) (by omega) (fun h => absurd h (by decide)) (fun _ => ?_)
  refine wm_aload_n hC 0 (pc := 425) dL_refusesAny_425 rfl rfl ?_
  refine wm_iload hC  (pc := 426) dL_refusesAny_426 rfl ?_
  refine wm_iconst hC (pc := 428) dL_refusesAny_428 ?_
  refine wm_jV hC cv_L_56 kc_X8_talks rfl rfl (t_talksN hO (by omega) (by omega) (by decide)) rfl (by decide) rfl (Nat.le_of_ble_eq_true rfl) (pc := 429) dL_refusesAny_429 (fun z429 w429 hw429 => ?_)
  obtain ⟨rfl, hO⟩ := hw429
  refine wm_ldc2 hC (-1000001) kJ_L_60 (pc := 432) dL_refusesAny_432 ?_
  refine wm_lcmp_eq hC (pc := 435) dL_refusesAny_435 rfl ?_
  refine wm_if_ne hC 477 (pc := 436) dL_refusesAny_436 (by decide) (by omega) (fun h => absurd h (by decide)) (fun _ => ?_)
  refine wm_aload_n hC 0 (pc := 439) dL_refusesAny_439 rfl rfl ?_
  refine wm_iconst hC (pc := 440) dL_refusesAny_440 ?_
  refine wm_iload hC  (pc := 441) dL_refusesAny_441 rfl ?_
  refine wm_jV hC cv_L_56 kc_X8_talks rfl rfl (t_talksN hO (by omega) (by omega) (by decide)) rfl (by decide) rfl (Nat.le_of_ble_eq_true rfl) (pc := 443) dL_refusesAny_443 (fun z443 w443 hw443 => ?_)
  obtain ⟨rfl, hO⟩ := hw443
  refine wm_ldc2 hC (-1000001) kJ_L_60 (pc := 446) dL_refusesAny_446 ?_
  refine wm_lcmp_eq hC (pc := 449) dL_refusesAny_449 rfl ?_
  refine wm_if_ne hC 477 (pc := 450) dL_refusesAny_450 (by decide) (by omega) (fun h => absurd h (by decide)) (fun _ => ?_)
  refine wm_aload_n hC 0 (pc := 453) dL_refusesAny_453 rfl rfl ?_
  refine wm_iload hC  (pc := 454) dL_refusesAny_454 rfl ?_
  refine wm_iconst hC (pc := 456) dL_refusesAny_456 ?_
  refine wm_iV hC cv_L_62 kc_X8_standsIn rfl rfl (t_standsInN hO (by omega) (by omega) (by decide)) rfl (by decide) rfl (Nat.le_of_ble_eq_true rfl) (pc := 457) dL_refusesAny_457 (fun z457 w457 hw457 => ?_)
  obtain ⟨rfl, hO⟩ := hw457
  refine wm_ldc hC (-1000001) kI_L_31 (pc := 460) dL_refusesAny_460 ?_
  refine wm_icmp_ne hC 477 (pc := 462) dL_refusesAny_462 (by decide) (by omega) (by omega) (fun h => absurd h (by decide)) (fun _ => ?_)
  refine wm_aload_n hC 0 (pc := 465) dL_refusesAny_465 rfl rfl ?_
  refine wm_iconst hC (pc := 466) dL_refusesAny_466 ?_
  refine wm_iload hC  (pc := 467) dL_refusesAny_467 rfl ?_
  refine wm_iV hC cv_L_62 kc_X8_standsIn rfl rfl (t_standsInN hO (by omega) (by omega) (by decide)) rfl (by decide) rfl (Nat.le_of_ble_eq_true rfl) (pc := 469) dL_refusesAny_469 (fun z469 w469 hw469 => ?_)
  obtain ⟨rfl, hO⟩ := hw469
  refine wm_ldc hC (-1000001) kI_L_31 (pc := 472) dL_refusesAny_472 ?_
  refine wm_icmp_eq hC 479 (pc := 474) dL_refusesAny_474 (by decide) (by omega) (by omega) (fun _ => ?_) (fun h => absurd h (by decide))
  refine wm_aload_n hC 0 (pc := 479) dL_refusesAny_479 rfl rfl ?_
  refine wm_iload hC  (pc := 480) dL_refusesAny_480 rfl ?_
  refine wm_iconst hC (pc := 482) dL_refusesAny_482 ?_
  refine wm_iconst hC (pc := 483) dL_refusesAny_483 ?_
  refine wm_iV hC cv_L_65 kc_X8_against rfl rfl (t_againstN hO (by omega) (by omega) (by omega) (by decide)) rfl (by decide) rfl (Nat.le_of_ble_eq_true rfl) (pc := 484) dL_refusesAny_484 (fun z484 w484 hw484 => ?_)
  obtain ⟨rfl, hO⟩ := hw484
  refine wm_ldc hC (-1000001) kI_L_31 (pc := 487) dL_refusesAny_487 ?_
  refine wm_icmp_ne hC 599 (pc := 489) dL_refusesAny_489 (by decide) (by omega) (by omega) (fun h => absurd h (by decide)) (fun _ => ?_)
  refine wm_aload_n hC 0 (pc := 492) dL_refusesAny_492 rfl rfl ?_
  refine wm_iconst hC (pc := 493) dL_refusesAny_493 ?_
  refine wm_iload hC  (pc := 494) dL_refusesAny_494 rfl ?_
  refine wm_iconst hC (pc := 496) dL_refusesAny_496 ?_
  refine wm_iV hC cv_L_65 kc_X8_against rfl rfl (t_againstN hO (by omega) (by omega) (by omega) (by decide)) rfl (by decide) rfl (Nat.le_of_ble_eq_true rfl) (pc := 497) dL_refusesAny_497 (fun z497 w497 hw497 => ?_)
  obtain ⟨rfl, hO⟩ := hw497
  refine wm_ldc hC (-1000001) kI_L_31 (pc := 500) dL_refusesAny_500 ?_
  refine wm_icmp_ne hC 599 (pc := 502) dL_refusesAny_502 (by decide) (by omega) (by omega) (fun h => absurd h (by decide)) (fun _ => ?_)
  refine wm_aload_n hC 0 (pc := 505) dL_refusesAny_505 rfl rfl ?_
  refine wm_iconst hC (pc := 506) dL_refusesAny_506 ?_
  refine wm_iconst hC (pc := 507) dL_refusesAny_507 ?_
  refine wm_iload_n hC 1 (pc := 508) dL_refusesAny_508 rfl rfl ?_
  refine wm_if_ge hC 516 (pc := 509) dL_refusesAny_509 (by decide) (by omega) (fun h => absurd h (by decide)) (fun _ => ?_)
  refine wm_iconst hC (pc := 512) dL_refusesAny_512 ?_
  refine wm_goto hC 518 (pc := 513) dL_refusesAny_513 (by decide) ?_
  refine wm_iV hC cv_L_65 kc_X8_against rfl rfl (t_againstN hO (by omega) (by omega) (by omega) (by decide)) rfl (by decide) rfl (Nat.le_of_ble_eq_true rfl) (pc := 518) dL_refusesAny_518 (fun z518 w518 hw518 => ?_)
  obtain ⟨rfl, hO⟩ := hw518
  refine wm_ldc hC (-1000001) kI_L_31 (pc := 521) dL_refusesAny_521 ?_
  refine wm_icmp_ne hC 599 (pc := 523) dL_refusesAny_523 (by decide) (by omega) (by omega) (fun h => absurd h (by decide)) (fun _ => ?_)
  refine wm_aload_n hC 0 (pc := 526) dL_refusesAny_526 rfl rfl ?_
  refine wm_iload_n hC 1 (pc := 527) dL_refusesAny_527 rfl rfl ?_
  refine wm_if_ge hC 535 (pc := 528) dL_refusesAny_528 (by decide) (by omega) (fun h => absurd h (by decide)) (fun _ => ?_)
  refine wm_iconst hC (pc := 531) dL_refusesAny_531 ?_
  refine wm_goto hC 537 (pc := 532) dL_refusesAny_532 (by decide) ?_
  refine wm_iV hC cv_L_22 kc_X8_count rfl rfl (t_count hO (by omega)) rfl (by decide) rfl (Nat.le_of_ble_eq_true rfl) (pc := 537) dL_refusesAny_537 (fun z537 w537 hw537 => ?_)
  obtain ⟨e537, hO⟩ := hw537
  rw [countA_inv (by decide) (by decide)] at e537
  subst e537
  refine wm_ldc hC (-1000001) kI_L_31 (pc := 540) dL_refusesAny_540 ?_
  refine wm_icmp_ne hC 599 (pc := 542) dL_refusesAny_542 (by decide) (by omega) (by omega) (fun h => absurd h (by decide)) (fun _ => ?_)
  refine wm_aload_n hC 0 (pc := 545) dL_refusesAny_545 rfl rfl ?_
  refine wm_iload_n hC 1 (pc := 546) dL_refusesAny_546 rfl rfl ?_
  refine wm_if_ge hC 554 (pc := 547) dL_refusesAny_547 (by decide) (by omega) (fun h => absurd h (by decide)) (fun _ => ?_)
  refine wm_iconst hC (pc := 550) dL_refusesAny_550 ?_
  refine wm_goto hC 556 (pc := 551) dL_refusesAny_551 (by decide) ?_
  refine wm_iV hC cv_L_22 kc_X8_count rfl rfl (t_count hO (by omega)) rfl (by decide) rfl (Nat.le_of_ble_eq_true rfl) (pc := 556) dL_refusesAny_556 (fun z556 w556 hw556 => ?_)
  obtain ⟨e556, hO⟩ := hw556
  rw [countA_inv (by decide) (by decide)] at e556
  subst e556
  refine wm_ldc hC (-1000001) kI_L_31 (pc := 559) dL_refusesAny_559 ?_
  refine wm_icmp_ne hC 599 (pc := 561) dL_refusesAny_561 (by decide) (by omega) (by omega) (fun h => absurd h (by decide)) (fun _ => ?_)
  refine wm_aload_n hC 0 (pc := 564) dL_refusesAny_564 rfl rfl ?_
  refine wm_iload_n hC 1 (pc := 565) dL_refusesAny_565 rfl rfl ?_
  refine wm_if_ge hC 574 (pc := 566) dL_refusesAny_566 (by decide) (by omega) (fun h => absurd h (by decide)) (fun _ => ?_)
  refine wm_bipush hC (pc := 569) dL_refusesAny_569 (by decide) ?_
  refine wm_goto hC 576 (pc := 571) dL_refusesAny_571 (by decide) ?_
  refine wm_iV hC cv_L_68 kc_X8_type rfl rfl (t_typeN hO (by omega) (by decide)) rfl (by decide) rfl (Nat.le_of_ble_eq_true rfl) (pc := 576) dL_refusesAny_576 (fun z576 w576 hw576 => ?_)
  obtain ⟨rfl, hO⟩ := hw576
  refine wm_ldc hC (-1000001) kI_L_31 (pc := 579) dL_refusesAny_579 ?_
  refine wm_icmp_ne hC 599 (pc := 581) dL_refusesAny_581 (by decide) (by omega) (by omega) (fun h => absurd h (by decide)) (fun _ => ?_)
  refine wm_aload_n hC 0 (pc := 584) dL_refusesAny_584 rfl rfl ?_
  refine wm_iload hC  (pc := 585) dL_refusesAny_585 rfl ?_
  refine wm_iV hC cv_L_71 kc_X8_fault rfl rfl (t_faultN hO (by omega) (by decide)) rfl (by decide) rfl (Nat.le_of_ble_eq_true rfl) (pc := 587) dL_refusesAny_587 (fun z587 w587 hw587 => ?_)
  obtain ⟨rfl, hO⟩ := hw587
  refine wm_ldc hC (-1000001) kI_L_31 (pc := 590) dL_refusesAny_590 ?_
  refine wm_icmp_ne hC 599 (pc := 592) dL_refusesAny_592 (by decide) (by omega) (by omega) (fun h => absurd h (by decide)) (fun _ => ?_)
  refine wm_iconst hC (pc := 595) dL_refusesAny_595 ?_
  refine wm_goto hC 600 (pc := 596) dL_refusesAny_596 (by decide) ?_
  refine wm_zretI hC (pc := 600) dL_refusesAny_600 (by decide) ?_
  exact ⟨rfl, hO⟩
set_option maxRecDepth 100000 in
set_option maxHeartbeats 4000000 in
theorem t_refusesAnyP {l : Launch} {G : mG} {w : mW} {P : Pn} {Hs : List Pn} {tx : List Int} {V : Int → Int} (hO : Ob w P Hs tx V) : Mx l G 7 yL_refusesAny cL_refusesAny 5 (some .boolean) [mvR 0, mvI 1] w (qI (fun z w' => z = 1 ∧ Ob w' P Hs tx V)) := by
  refine Mx.intro (by decide) RL rfl [some (mvR 0), some (mvI 1), none, none, none] (Nat.le_of_ble_eq_true rfl) rfl (fun K hC => ?_)
  refine wm_iload_n hC 1 (pc := 0) dL_refusesAny_0 rfl rfl ?_
  refine wm_if_ge hC 8 (pc := 1) dL_refusesAny_1 (by decide) (by omega) (fun _ => ?_) (fun h => absurd h (by decide))
  refine wm_bipush hC (pc := 8) dL_refusesAny_8 (by decide) ?_
  refine wm_istore_n hC 2 (pc := 10) dL_refusesAny_10 rfl (by decide) rfl ?_
  refine wm_iload_n hC 1 (pc := 11) dL_refusesAny_11 rfl rfl ?_
  refine wm_if_ge hC 19 (pc := 12) dL_refusesAny_12 (by decide) (by omega) (fun _ => ?_) (fun h => absurd h (by decide))
  refine wm_bipush hC (pc := 19) dL_refusesAny_19 (by decide) ?_
  refine wm_istore_n hC 3 (pc := 21) dL_refusesAny_21 rfl (by decide) rfl ?_
  refine wm_iload_n hC 1 (pc := 22) dL_refusesAny_22 rfl rfl ?_
  refine wm_if_ge hC 30 (pc := 23) dL_refusesAny_23 (by decide) (by omega) (fun _ => ?_) (fun h => absurd h (by decide))
  refine wm_iconst hC (pc := 30) dL_refusesAny_30 ?_
  refine wm_istore hC  (pc := 31) dL_refusesAny_31  (by decide) rfl ?_
  refine wm_aload_n hC 0 (pc := 33) dL_refusesAny_33 rfl rfl ?_
  refine wm_iload hC  (pc := 34) dL_refusesAny_34 rfl ?_
  refine wm_iconst hC (pc := 36) dL_refusesAny_36 ?_
  refine wm_iconst hC (pc := 37) dL_refusesAny_37 ?_
  refine wm_iV hC cv_L_26 kc_X8_kind rfl rfl (t_kindN hO (by omega) (by omega) (by omega) (by decide)) rfl (by decide) rfl (Nat.le_of_ble_eq_true rfl) (pc := 38) dL_refusesAny_38 (fun z38 w38 hw38 => ?_)
  obtain ⟨rfl, hO⟩ := hw38
  refine wm_ldc hC (-1000001) kI_L_31 (pc := 41) dL_refusesAny_41 ?_
  refine wm_icmp_ne hC 124 (pc := 43) dL_refusesAny_43 (by decide) (by omega) (by omega) (fun h => absurd h (by decide)) (fun _ => ?_)
  refine wm_aload_n hC 0 (pc := 46) dL_refusesAny_46 rfl rfl ?_
  refine wm_iconst hC (pc := 47) dL_refusesAny_47 ?_
  refine wm_iload_n hC 2 (pc := 48) dL_refusesAny_48 rfl rfl ?_
  refine wm_iconst hC (pc := 49) dL_refusesAny_49 ?_
  refine wm_iV hC cv_L_26 kc_X8_kind rfl rfl (t_kindN hO (by omega) (by omega) (by omega) (by decide)) rfl (by decide) rfl (Nat.le_of_ble_eq_true rfl) (pc := 50) dL_refusesAny_50 (fun z50 w50 hw50 => ?_)
  obtain ⟨rfl, hO⟩ := hw50
  refine wm_ldc hC (-1000001) kI_L_31 (pc := 53) dL_refusesAny_53 ?_
  refine wm_icmp_ne hC 124 (pc := 55) dL_refusesAny_55 (by decide) (by omega) (by omega) (fun h => absurd h (by decide)) (fun _ => ?_)
  refine wm_aload_n hC 0 (pc := 58) dL_refusesAny_58 rfl rfl ?_
  refine wm_iconst hC (pc := 59) dL_refusesAny_59 ?_
  refine wm_iconst hC (pc := 60) dL_refusesAny_60 ?_
  refine wm_iload hC  (pc := 61) dL_refusesAny_61 rfl ?_
  refine wm_iV hC cv_L_26 kc_X8_kind rfl rfl (t_kindN hO (by omega) (by omega) (by omega) (by decide)) rfl (by decide) rfl (Nat.le_of_ble_eq_true rfl) (pc := 63) dL_refusesAny_63 (fun z63 w63 hw63 => ?_)
  obtain ⟨rfl, hO⟩ := hw63
  refine wm_ldc hC (-1000001) kI_L_31 (pc := 66) dL_refusesAny_66 ?_
  refine wm_icmp_ne hC 124 (pc := 68) dL_refusesAny_68 (by decide) (by omega) (by omega) (fun h => absurd h (by decide)) (fun _ => ?_)
  refine wm_aload_n hC 0 (pc := 71) dL_refusesAny_71 rfl rfl ?_
  refine wm_iload hC  (pc := 72) dL_refusesAny_72 rfl ?_
  refine wm_iconst hC (pc := 74) dL_refusesAny_74 ?_
  refine wm_iconst hC (pc := 75) dL_refusesAny_75 ?_
  refine wm_iconst hC (pc := 76) dL_refusesAny_76 ?_
  refine wm_iV hC cv_L_32 kc_X8_arrow rfl rfl (t_arrowN hO (by omega) (by omega) (by omega) (by omega) (by decide)) rfl (by decide) rfl (Nat.le_of_ble_eq_true rfl) (pc := 77) dL_refusesAny_77 (fun z77 w77 hw77 => ?_)
  obtain ⟨rfl, hO⟩ := hw77
  refine wm_ldc hC (-1000001) kI_L_31 (pc := 80) dL_refusesAny_80 ?_
  refine wm_icmp_ne hC 124 (pc := 82) dL_refusesAny_82 (by decide) (by omega) (by omega) (fun h => absurd h (by decide)) (fun _ => ?_)
  refine wm_aload_n hC 0 (pc := 85) dL_refusesAny_85 rfl rfl ?_
  refine wm_iconst hC (pc := 86) dL_refusesAny_86 ?_
  refine wm_iload_n hC 2 (pc := 87) dL_refusesAny_87 rfl rfl ?_
  refine wm_iconst hC (pc := 88) dL_refusesAny_88 ?_
  refine wm_iconst hC (pc := 89) dL_refusesAny_89 ?_
  refine wm_iV hC cv_L_32 kc_X8_arrow rfl rfl (t_arrowN hO (by omega) (by omega) (by omega) (by omega) (by decide)) rfl (by decide) rfl (Nat.le_of_ble_eq_true rfl) (pc := 90) dL_refusesAny_90 (fun z90 w90 hw90 => ?_)
  obtain ⟨rfl, hO⟩ := hw90
  refine wm_ldc hC (-1000001) kI_L_31 (pc := 93) dL_refusesAny_93 ?_
  refine wm_icmp_ne hC 124 (pc := 95) dL_refusesAny_95 (by decide) (by omega) (by omega) (fun h => absurd h (by decide)) (fun _ => ?_)
  refine wm_aload_n hC 0 (pc := 98) dL_refusesAny_98 rfl rfl ?_
  refine wm_iconst hC (pc := 99) dL_refusesAny_99 ?_
  refine wm_iconst hC (pc := 100) dL_refusesAny_100 ?_
  refine wm_iload_n hC 3 (pc := 101) dL_refusesAny_101 rfl rfl ?_
  refine wm_iconst hC (pc := 102) dL_refusesAny_102 ?_
  refine wm_iV hC cv_L_32 kc_X8_arrow rfl rfl (t_arrowN hO (by omega) (by omega) (by omega) (by omega) (by decide)) rfl (by decide) rfl (Nat.le_of_ble_eq_true rfl) (pc := 103) dL_refusesAny_103 (fun z103 w103 hw103 => ?_)
  obtain ⟨rfl, hO⟩ := hw103
  refine wm_ldc hC (-1000001) kI_L_31 (pc := 106) dL_refusesAny_106 ?_
  refine wm_icmp_ne hC 124 (pc := 108) dL_refusesAny_108 (by decide) (by omega) (by omega) (fun h => absurd h (by decide)) (fun _ => ?_)
  refine wm_aload_n hC 0 (pc := 111) dL_refusesAny_111 rfl rfl ?_
  refine wm_iconst hC (pc := 112) dL_refusesAny_112 ?_
  refine wm_iconst hC (pc := 113) dL_refusesAny_113 ?_
  refine wm_iconst hC (pc := 114) dL_refusesAny_114 ?_
  refine wm_iload_n hC 2 (pc := 115) dL_refusesAny_115 rfl rfl ?_
  refine wm_iV hC cv_L_32 kc_X8_arrow rfl rfl (t_arrowN hO (by omega) (by omega) (by omega) (by omega) (by decide)) rfl (by decide) rfl (Nat.le_of_ble_eq_true rfl) (pc := 116) dL_refusesAny_116 (fun z116 w116 hw116 => ?_)
  obtain ⟨rfl, hO⟩ := hw116
  refine wm_ldc hC (-1000001) kI_L_31 (pc := 119) dL_refusesAny_119 ?_
  refine wm_icmp_eq hC 126 (pc := 121) dL_refusesAny_121 (by decide) (by omega) (by omega) (fun _ => ?_) (fun h => absurd h (by decide))
  refine wm_aload_n hC 0 (pc := 126) dL_refusesAny_126 rfl rfl ?_
  refine wm_iload hC  (pc := 127) dL_refusesAny_127 rfl ?_
  refine wm_iconst hC (pc := 129) dL_refusesAny_129 ?_
  refine wm_iconst hC (pc := 130) dL_refusesAny_130 ?_
  refine wm_iV hC cv_L_36 kc_X8_erase rfl rfl (t_eraseN hO (by omega) (by omega) (by omega) (by decide)) rfl (by decide) rfl (Nat.le_of_ble_eq_true rfl) (pc := 131) dL_refusesAny_131 (fun z131 w131 hw131 => ?_)
  obtain ⟨rfl, hO⟩ := hw131
  refine wm_ldc hC (-1000001) kI_L_31 (pc := 134) dL_refusesAny_134 ?_
  refine wm_icmp_ne hC 231 (pc := 136) dL_refusesAny_136 (by decide) (by omega) (by omega) (fun h => absurd h (by decide)) (fun _ => ?_)
  refine wm_aload_n hC 0 (pc := 139) dL_refusesAny_139 rfl rfl ?_
  refine wm_iconst hC (pc := 140) dL_refusesAny_140 ?_
  refine wm_iload_n hC 2 (pc := 141) dL_refusesAny_141 rfl rfl ?_
  refine wm_iconst hC (pc := 142) dL_refusesAny_142 ?_
  refine wm_iV hC cv_L_36 kc_X8_erase rfl rfl (t_eraseN hO (by omega) (by omega) (by omega) (by decide)) rfl (by decide) rfl (Nat.le_of_ble_eq_true rfl) (pc := 143) dL_refusesAny_143 (fun z143 w143 hw143 => ?_)
  obtain ⟨rfl, hO⟩ := hw143
  refine wm_ldc hC (-1000001) kI_L_31 (pc := 146) dL_refusesAny_146 ?_
  refine wm_icmp_ne hC 231 (pc := 148) dL_refusesAny_148 (by decide) (by omega) (by omega) (fun h => absurd h (by decide)) (fun _ => ?_)
  refine wm_aload_n hC 0 (pc := 151) dL_refusesAny_151 rfl rfl ?_
  refine wm_iconst hC (pc := 152) dL_refusesAny_152 ?_
  refine wm_iconst hC (pc := 153) dL_refusesAny_153 ?_
  refine wm_iload_n hC 3 (pc := 154) dL_refusesAny_154 rfl rfl ?_
  refine wm_iV hC cv_L_36 kc_X8_erase rfl rfl (t_eraseN hO (by omega) (by omega) (by omega) (by decide)) rfl (by decide) rfl (Nat.le_of_ble_eq_true rfl) (pc := 155) dL_refusesAny_155 (fun z155 w155 hw155 => ?_)
  obtain ⟨rfl, hO⟩ := hw155
  refine wm_ldc hC (-1000001) kI_L_31 (pc := 158) dL_refusesAny_158 ?_
  refine wm_icmp_ne hC 231 (pc := 160) dL_refusesAny_160 (by decide) (by omega) (by omega) (fun h => absurd h (by decide)) (fun _ => ?_)
  refine wm_aload_n hC 0 (pc := 163) dL_refusesAny_163 rfl rfl ?_
  refine wm_iload hC  (pc := 164) dL_refusesAny_164 rfl ?_
  refine wm_iconst hC (pc := 166) dL_refusesAny_166 ?_
  refine wm_iV hC cv_L_39 kc_X8_copy rfl rfl (t_copyN hO (by omega) (by omega) (by decide)) rfl (by decide) rfl (Nat.le_of_ble_eq_true rfl) (pc := 167) dL_refusesAny_167 (fun z167 w167 hw167 => ?_)
  obtain ⟨rfl, hO⟩ := hw167
  refine wm_ldc hC (-1000001) kI_L_31 (pc := 170) dL_refusesAny_170 ?_
  refine wm_icmp_ne hC 231 (pc := 172) dL_refusesAny_172 (by decide) (by omega) (by omega) (fun h => absurd h (by decide)) (fun _ => ?_)
  refine wm_aload_n hC 0 (pc := 175) dL_refusesAny_175 rfl rfl ?_
  refine wm_iconst hC (pc := 176) dL_refusesAny_176 ?_
  refine wm_iload hC  (pc := 177) dL_refusesAny_177 rfl ?_
  refine wm_iV hC cv_L_39 kc_X8_copy rfl rfl (t_copyN hO (by omega) (by omega) (by decide)) rfl (by decide) rfl (Nat.le_of_ble_eq_true rfl) (pc := 179) dL_refusesAny_179 (fun z179 w179 hw179 => ?_)
  obtain ⟨rfl, hO⟩ := hw179
  refine wm_ldc hC (-1000001) kI_L_31 (pc := 182) dL_refusesAny_182 ?_
  refine wm_icmp_ne hC 231 (pc := 184) dL_refusesAny_184 (by decide) (by omega) (by omega) (fun h => absurd h (by decide)) (fun _ => ?_)
  refine wm_aload_n hC 0 (pc := 187) dL_refusesAny_187 rfl rfl ?_
  refine wm_iconst hC (pc := 188) dL_refusesAny_188 ?_
  refine wm_iconst hC (pc := 189) dL_refusesAny_189 ?_
  refine wm_iV hC cv_L_39 kc_X8_copy rfl rfl (t_copyN hO (by omega) (by omega) (by decide)) rfl (by decide) rfl (Nat.le_of_ble_eq_true rfl) (pc := 190) dL_refusesAny_190 (fun z190 w190 hw190 => ?_)
  obtain ⟨rfl, hO⟩ := hw190
  refine wm_ldc hC (-1000001) kI_L_31 (pc := 193) dL_refusesAny_193 ?_
  refine wm_icmp_ne hC 231 (pc := 195) dL_refusesAny_195 (by decide) (by omega) (by omega) (fun h => absurd h (by decide)) (fun _ => ?_)
  refine wm_aload_n hC 0 (pc := 198) dL_refusesAny_198 rfl rfl ?_
  refine wm_iload hC  (pc := 199) dL_refusesAny_199 rfl ?_
  refine wm_iV hC cv_L_43 kc_X8_mirror rfl rfl (t_mirrorN hO (by omega) (by decide)) rfl (by decide) rfl (Nat.le_of_ble_eq_true rfl) (pc := 201) dL_refusesAny_201 (fun z201 w201 hw201 => ?_)
  obtain ⟨rfl, hO⟩ := hw201
  refine wm_ldc hC (-1000001) kI_L_31 (pc := 204) dL_refusesAny_204 ?_
  refine wm_icmp_ne hC 231 (pc := 206) dL_refusesAny_206 (by decide) (by omega) (by omega) (fun h => absurd h (by decide)) (fun _ => ?_)
  refine wm_aload_n hC 0 (pc := 209) dL_refusesAny_209 rfl rfl ?_
  refine wm_iload hC  (pc := 210) dL_refusesAny_210 rfl ?_
  refine wm_iV hC cv_L_46 kc_X8_unlike rfl rfl (t_unlikeN hO (by omega) (by decide)) rfl (by decide) rfl (Nat.le_of_ble_eq_true rfl) (pc := 212) dL_refusesAny_212 (fun z212 w212 hw212 => ?_)
  obtain ⟨rfl, hO⟩ := hw212
  refine wm_ldc hC (-1000001) kI_L_31 (pc := 215) dL_refusesAny_215 ?_
  refine wm_icmp_ne hC 231 (pc := 217) dL_refusesAny_217 (by decide) (by omega) (by omega) (fun h => absurd h (by decide)) (fun _ => ?_)
  refine wm_aload_n hC 0 (pc := 220) dL_refusesAny_220 rfl rfl ?_
  refine wm_iload hC  (pc := 221) dL_refusesAny_221 rfl ?_
  refine wm_iV hC cv_L_49 kc_X8_read rfl rfl (t_readN hO (by omega) (by decide)) rfl (by decide) rfl (Nat.le_of_ble_eq_true rfl) (pc := 223) dL_refusesAny_223 (fun z223 w223 hw223 => ?_)
  obtain ⟨rfl, hO⟩ := hw223
  refine wm_ldc hC (-1000001) kI_L_31 (pc := 226) dL_refusesAny_226 ?_
  refine wm_icmp_eq hC 233 (pc := 228) dL_refusesAny_228 (by decide) (by omega) (by omega) (fun _ => ?_) (fun h => absurd h (by decide))
  refine wm_aload_n hC 0 (pc := 233) dL_refusesAny_233 rfl rfl ?_
  refine wm_iload hC  (pc := 234) dL_refusesAny_234 rfl ?_
  refine wm_iconst hC (pc := 236) dL_refusesAny_236 ?_
  refine wm_iconst hC (pc := 237) dL_refusesAny_237 ?_
  refine wm_iV hC cv_L_13 kc_X8_stateOf rfl rfl (t_stateOfN hO (by omega) (by omega) (by omega) (by decide)) rfl (by decide) rfl (Nat.le_of_ble_eq_true rfl) (pc := 238) dL_refusesAny_238 (fun z238 w238 hw238 => ?_)
  obtain ⟨rfl, hO⟩ := hw238
  refine wm_ldc hC (-1000001) kI_L_31 (pc := 241) dL_refusesAny_241 ?_
  refine wm_icmp_ne hC 376 (pc := 243) dL_refusesAny_243 (by decide) (by omega) (by omega) (fun h => absurd h (by decide)) (fun _ => ?_)
  refine wm_aload_n hC 0 (pc := 246) dL_refusesAny_246 rfl rfl ?_
  refine wm_iconst hC (pc := 247) dL_refusesAny_247 ?_
  refine wm_iload_n hC 2 (pc := 248) dL_refusesAny_248 rfl rfl ?_
  refine wm_iconst hC (pc := 249) dL_refusesAny_249 ?_
  refine wm_iV hC cv_L_13 kc_X8_stateOf rfl rfl (t_stateOfN hO (by omega) (by omega) (by omega) (by decide)) rfl (by decide) rfl (Nat.le_of_ble_eq_true rfl) (pc := 250) dL_refusesAny_250 (fun z250 w250 hw250 => ?_)
  obtain ⟨rfl, hO⟩ := hw250
  refine wm_ldc hC (-1000001) kI_L_31 (pc := 253) dL_refusesAny_253 ?_
  refine wm_icmp_ne hC 376 (pc := 255) dL_refusesAny_255 (by decide) (by omega) (by omega) (fun h => absurd h (by decide)) (fun _ => ?_)
  refine wm_aload_n hC 0 (pc := 258) dL_refusesAny_258 rfl rfl ?_
  refine wm_iconst hC (pc := 259) dL_refusesAny_259 ?_
  refine wm_iconst hC (pc := 260) dL_refusesAny_260 ?_
  refine wm_iload_n hC 1 (pc := 261) dL_refusesAny_261 rfl rfl ?_
  refine wm_if_ge hC 269 (pc := 262) dL_refusesAny_262 (by decide) (by omega) (fun _ => ?_) (fun h => absurd h (by decide))
  refine wm_bipush hC (pc := 269) dL_refusesAny_269 (by decide) ?_
  refine wm_iV hC cv_L_13 kc_X8_stateOf rfl rfl (t_stateOfN hO (by omega) (by omega) (by omega) (by decide)) rfl (by decide) rfl (Nat.le_of_ble_eq_true rfl) (pc := 271) dL_refusesAny_271 (fun z271 w271 hw271 => ?_)
  obtain ⟨rfl, hO⟩ := hw271
  refine wm_ldc hC (-1000001) kI_L_31 (pc := 274) dL_refusesAny_274 ?_
  refine wm_icmp_ne hC 376 (pc := 276) dL_refusesAny_276 (by decide) (by omega) (by omega) (fun h => absurd h (by decide)) (fun _ => ?_)
  refine wm_aload_n hC 0 (pc := 279) dL_refusesAny_279 rfl rfl ?_
  refine wm_iload hC  (pc := 280) dL_refusesAny_280 rfl ?_
  refine wm_iconst hC (pc := 282) dL_refusesAny_282 ?_
  refine wm_iconst hC (pc := 283) dL_refusesAny_283 ?_
  refine wm_iconst hC (pc := 284) dL_refusesAny_284 ?_
  refine wm_iV hC cv_L_52 kc_X8_pairOf rfl rfl (t_pairOfN hO (by omega) (by omega) (by omega) (by omega) (by decide)) rfl (by decide) rfl (Nat.le_of_ble_eq_true rfl) (pc := 285) dL_refusesAny_285 (fun z285 w285 hw285 => ?_)
  obtain ⟨rfl, hO⟩ := hw285
  refine wm_ldc hC (-1000001) kI_L_31 (pc := 288) dL_refusesAny_288 ?_
  refine wm_icmp_ne hC 376 (pc := 290) dL_refusesAny_290 (by decide) (by omega) (by omega) (fun h => absurd h (by decide)) (fun _ => ?_)
  refine wm_aload_n hC 0 (pc := 293) dL_refusesAny_293 rfl rfl ?_
  refine wm_iconst hC (pc := 294) dL_refusesAny_294 ?_
  refine wm_iload hC  (pc := 295) dL_refusesAny_295 rfl ?_
  refine wm_iconst hC (pc := 297) dL_refusesAny_297 ?_
  refine wm_iconst hC (pc := 298) dL_refusesAny_298 ?_
  refine wm_iV hC cv_L_52 kc_X8_pairOf rfl rfl (t_pairOfN hO (by omega) (by omega) (by omega) (by omega) (by decide)) rfl (by decide) rfl (Nat.le_of_ble_eq_true rfl) (pc := 299) dL_refusesAny_299 (fun z299 w299 hw299 => ?_)
  obtain ⟨rfl, hO⟩ := hw299
  refine wm_ldc hC (-1000001) kI_L_31 (pc := 302) dL_refusesAny_302 ?_
  refine wm_icmp_ne hC 376 (pc := 304) dL_refusesAny_304 (by decide) (by omega) (by omega) (fun h => absurd h (by decide)) (fun _ => ?_)
  refine wm_aload_n hC 0 (pc := 307) dL_refusesAny_307 rfl rfl ?_
  refine wm_iconst hC (pc := 308) dL_refusesAny_308 ?_
  refine wm_iconst hC (pc := 309) dL_refusesAny_309 ?_
  refine wm_iload_n hC 1 (pc := 310) dL_refusesAny_310 rfl rfl ?_
  refine wm_if_ge hC 319 (pc := 311) dL_refusesAny_311 (by decide) (by omega) (fun _ => ?_) (fun h => absurd h (by decide))
  refine wm_bipush hC (pc := 319) dL_refusesAny_319 (by decide) ?_
  refine wm_iload_n hC 1 (pc := 321) dL_refusesAny_321 rfl rfl ?_
  refine wm_if_ge hC 329 (pc := 322) dL_refusesAny_322 (by decide) (by omega) (fun _ => ?_) (fun h => absurd h (by decide))
  refine wm_iconst hC (pc := 329) dL_refusesAny_329 ?_
  refine wm_iV hC cv_L_52 kc_X8_pairOf rfl rfl (t_pairOfN hO (by omega) (by omega) (by omega) (by omega) (by decide)) rfl (by decide) rfl (Nat.le_of_ble_eq_true rfl) (pc := 330) dL_refusesAny_330 (fun z330 w330 hw330 => ?_)
  obtain ⟨rfl, hO⟩ := hw330
  refine wm_ldc hC (-1000001) kI_L_31 (pc := 333) dL_refusesAny_333 ?_
  refine wm_icmp_ne hC 376 (pc := 335) dL_refusesAny_335 (by decide) (by omega) (by omega) (fun h => absurd h (by decide)) (fun _ => ?_)
  refine wm_aload_n hC 0 (pc := 338) dL_refusesAny_338 rfl rfl ?_
  refine wm_iconst hC (pc := 339) dL_refusesAny_339 ?_
  refine wm_iconst hC (pc := 340) dL_refusesAny_340 ?_
  refine wm_bipush hC (pc := 341) dL_refusesAny_341 (by decide) ?_
  refine wm_iload_n hC 1 (pc := 343) dL_refusesAny_343 rfl rfl ?_
  refine wm_if_ge hC 352 (pc := 344) dL_refusesAny_344 (by decide) (by omega) (fun _ => ?_) (fun h => absurd h (by decide))
  refine wm_bipush hC (pc := 352) dL_refusesAny_352 (by decide) ?_
  refine wm_iV hC cv_L_52 kc_X8_pairOf rfl rfl (t_pairOfN hO (by omega) (by omega) (by omega) (by omega) (by decide)) rfl (by decide) rfl (Nat.le_of_ble_eq_true rfl) (pc := 354) dL_refusesAny_354 (fun z354 w354 hw354 => ?_)
  obtain ⟨rfl, hO⟩ := hw354
  refine wm_ldc hC (-1000001) kI_L_31 (pc := 357) dL_refusesAny_357 ?_
  refine wm_icmp_ne hC 376 (pc := 359) dL_refusesAny_359 (by decide) (by omega) (by omega) (fun h => absurd h (by decide)) (fun _ => ?_)
  refine wm_aload_n hC 0 (pc := 362) dL_refusesAny_362 rfl rfl ?_
  refine wm_iconst hC (pc := 363) dL_refusesAny_363 ?_
  refine wm_iconst hC (pc := 364) dL_refusesAny_364 ?_
  refine wm_bipush hC (pc := 365) dL_refusesAny_365 (by decide) ?_
  refine wm_iconst hC (pc := 367) dL_refusesAny_367 ?_
  refine wm_iV hC cv_L_52 kc_X8_pairOf rfl rfl (t_pairOfV hO (by decide) (by decide)) rfl (by decide) rfl (Nat.le_of_ble_eq_true rfl) (pc := 368) dL_refusesAny_368 (fun z368 w368 hw368 => ?_)
  obtain ⟨e368, hO⟩ := hw368
  rw [pair64 hO.2.1] at e368
  subst e368
  refine wm_ldc hC (-1000004) kI_L_55 (pc := 371) dL_refusesAny_371 ?_
  refine wm_icmp_eq hC 378 (pc := 373) dL_refusesAny_373 (by decide) (by omega) (by omega) (fun _ => ?_) (fun h => absurd h (by decide))
  refine wm_aload_n hC 0 (pc := 378) dL_refusesAny_378 rfl rfl ?_
  refine wm_iload hC  (pc := 379) dL_refusesAny_379 rfl ?_
  refine wm_iconst hC (pc := 381) dL_refusesAny_381 ?_
  refine wm_iconst hC (pc := 382) dL_refusesAny_382 ?_
  refine wm_iV hC cv_L_19 kc_X8_talk rfl rfl (t_talkN hO (by omega) (by omega) (by omega) (by decide)) rfl (by decide) rfl (Nat.le_of_ble_eq_true rfl) (pc := 383) dL_refusesAny_383 (fun z383 w383 hw383 => ?_)
  obtain ⟨rfl, hO⟩ := hw383
  refine wm_ldc hC (-1000001) kI_L_31 (pc := 386) dL_refusesAny_386 ?_
  refine wm_icmp_ne hC 477 (pc := 388) dL_refusesAny_388 (by decide) (by omega) (by omega) (fun h => absurd h (by decide)) (fun _ => ?_)
  refine wm_aload_n hC 0 (pc := 391) dL_refusesAny_391 rfl rfl ?_
  refine wm_iconst hC (pc := 392) dL_refusesAny_392 ?_
  refine wm_iload hC  (pc := 393) dL_refusesAny_393 rfl ?_
  refine wm_iconst hC (pc := 395) dL_refusesAny_395 ?_
  refine wm_iV hC cv_L_19 kc_X8_talk rfl rfl (t_talkN hO (by omega) (by omega) (by omega) (by decide)) rfl (by decide) rfl (Nat.le_of_ble_eq_true rfl) (pc := 396) dL_refusesAny_396 (fun z396 w396 hw396 => ?_)
  obtain ⟨rfl, hO⟩ := hw396
  refine wm_ldc hC (-1000001) kI_L_31 (pc := 399) dL_refusesAny_399 ?_
  refine wm_icmp_ne hC 477 (pc := 401) dL_refusesAny_401 (by decide) (by omega) (by omega) (fun h => absurd h (by decide)) (fun _ => ?_)
  refine wm_aload_n hC 0 (pc := 404) dL_refusesAny_404 rfl rfl ?_
  refine wm_iconst hC (pc := 405) dL_refusesAny_405 ?_
  refine wm_iconst hC (pc := 406) dL_refusesAny_406 ?_
  refine wm_iload_n hC 1 (pc := 407) dL_refusesAny_407 rfl rfl ?_
  refine wm_if_ge hC 415 (pc := 408) dL_refusesAny_408 (by decide) (by omega) (fun _ => ?_) (fun h => absurd h (by decide))
  refine wm_bipush hC (pc := 415) dL_refusesAny_415 (by decide) ?_
  refine wm_iV hC cv_L_19 kc_X8_talk rfl rfl (t_talkN hO (by omega) (by omega) (by omega) (by decide)) rfl (by decide) rfl (Nat.le_of_ble_eq_true rfl) (pc := 417) dL_refusesAny_417 (fun z417 w417 hw417 => ?_)
  obtain ⟨rfl, hO⟩ := hw417
  refine wm_ldc hC (-1000001) kI_L_31 (pc := 420) dL_refusesAny_420 ?_
  refine wm_icmp_ne hC 477 (pc := 422) dL_refusesAny_422 (by decide) (by omega) (by omega) (fun h => absurd h (by decide)) (fun _ => ?_)
  refine wm_aload_n hC 0 (pc := 425) dL_refusesAny_425 rfl rfl ?_
  refine wm_iload hC  (pc := 426) dL_refusesAny_426 rfl ?_
  refine wm_iconst hC (pc := 428) dL_refusesAny_428 ?_
  refine wm_jV hC cv_L_56 kc_X8_talks rfl rfl (t_talksN hO (by omega) (by omega) (by decide)) rfl (by decide) rfl (Nat.le_of_ble_eq_true rfl) (pc := 429) dL_refusesAny_429 (fun z429 w429 hw429 => ?_)
  obtain ⟨rfl, hO⟩ := hw429
  refine wm_ldc2 hC (-1000001) kJ_L_60 (pc := 432) dL_refusesAny_432 ?_
  refine wm_lcmp_eq hC (pc := 435) dL_refusesAny_435 rfl ?_
  refine wm_if_ne hC 477 (pc := 436) dL_refusesAny_436 (by decide) (by omega) (fun h => absurd h (by decide)) (fun _ => ?_)
  refine wm_aload_n hC 0 (pc := 439) dL_refusesAny_439 rfl rfl ?_
  refine wm_iconst hC (pc := 440) dL_refusesAny_440 ?_
  refine wm_iload hC  (pc := 441) dL_refusesAny_441 rfl ?_
  refine wm_jV hC cv_L_56 kc_X8_talks rfl rfl (t_talksN hO (by omega) (by omega) (by decide)) rfl (by decide) rfl (Nat.le_of_ble_eq_true rfl) (pc := 443) dL_refusesAny_443 (fun z443 w443 hw443 => ?_)
  obtain ⟨rfl, hO⟩ := hw443
  refine wm_ldc2 hC (-1000001) kJ_L_60 (pc := 446) dL_refusesAny_446 ?_
  refine wm_lcmp_eq hC (pc := 449) dL_refusesAny_449 rfl ?_
  refine wm_if_ne hC 477 (pc := 450) dL_refusesAny_450 (by decide) (by omega) (fun h => absurd h (by decide)) (fun _ => ?_)
  refine wm_aload_n hC 0 (pc := 453) dL_refusesAny_453 rfl rfl ?_
  refine wm_iload hC  (pc := 454) dL_refusesAny_454 rfl ?_
  refine wm_iconst hC (pc := 456) dL_refusesAny_456 ?_
  refine wm_iV hC cv_L_62 kc_X8_standsIn rfl rfl (t_standsInN hO (by omega) (by omega) (by decide)) rfl (by decide) rfl (Nat.le_of_ble_eq_true rfl) (pc := 457) dL_refusesAny_457 (fun z457 w457 hw457 => ?_)
  obtain ⟨rfl, hO⟩ := hw457
  refine wm_ldc hC (-1000001) kI_L_31 (pc := 460) dL_refusesAny_460 ?_
  refine wm_icmp_ne hC 477 (pc := 462) dL_refusesAny_462 (by decide) (by omega) (by omega) (fun h => absurd h (by decide)) (fun _ => ?_)
  refine wm_aload_n hC 0 (pc := 465) dL_refusesAny_465 rfl rfl ?_
  refine wm_iconst hC (pc := 466) dL_refusesAny_466 ?_
  refine wm_iload hC  (pc := 467) dL_refusesAny_467 rfl ?_
  refine wm_iV hC cv_L_62 kc_X8_standsIn rfl rfl (t_standsInN hO (by omega) (by omega) (by decide)) rfl (by decide) rfl (Nat.le_of_ble_eq_true rfl) (pc := 469) dL_refusesAny_469 (fun z469 w469 hw469 => ?_)
  obtain ⟨rfl, hO⟩ := hw469
  refine wm_ldc hC (-1000001) kI_L_31 (pc := 472) dL_refusesAny_472 ?_
  refine wm_icmp_eq hC 479 (pc := 474) dL_refusesAny_474 (by decide) (by omega) (by omega) (fun _ => ?_) (fun h => absurd h (by decide))
  refine wm_aload_n hC 0 (pc := 479) dL_refusesAny_479 rfl rfl ?_
  refine wm_iload hC  (pc := 480) dL_refusesAny_480 rfl ?_
  refine wm_iconst hC (pc := 482) dL_refusesAny_482 ?_
  refine wm_iconst hC (pc := 483) dL_refusesAny_483 ?_
  refine wm_iV hC cv_L_65 kc_X8_against rfl rfl (t_againstN hO (by omega) (by omega) (by omega) (by decide)) rfl (by decide) rfl (Nat.le_of_ble_eq_true rfl) (pc := 484) dL_refusesAny_484 (fun z484 w484 hw484 => ?_)
  obtain ⟨rfl, hO⟩ := hw484
  refine wm_ldc hC (-1000001) kI_L_31 (pc := 487) dL_refusesAny_487 ?_
  refine wm_icmp_ne hC 599 (pc := 489) dL_refusesAny_489 (by decide) (by omega) (by omega) (fun h => absurd h (by decide)) (fun _ => ?_)
  refine wm_aload_n hC 0 (pc := 492) dL_refusesAny_492 rfl rfl ?_
  refine wm_iconst hC (pc := 493) dL_refusesAny_493 ?_
  refine wm_iload hC  (pc := 494) dL_refusesAny_494 rfl ?_
  refine wm_iconst hC (pc := 496) dL_refusesAny_496 ?_
  refine wm_iV hC cv_L_65 kc_X8_against rfl rfl (t_againstN hO (by omega) (by omega) (by omega) (by decide)) rfl (by decide) rfl (Nat.le_of_ble_eq_true rfl) (pc := 497) dL_refusesAny_497 (fun z497 w497 hw497 => ?_)
  obtain ⟨rfl, hO⟩ := hw497
  refine wm_ldc hC (-1000001) kI_L_31 (pc := 500) dL_refusesAny_500 ?_
  refine wm_icmp_ne hC 599 (pc := 502) dL_refusesAny_502 (by decide) (by omega) (by omega) (fun h => absurd h (by decide)) (fun _ => ?_)
  refine wm_aload_n hC 0 (pc := 505) dL_refusesAny_505 rfl rfl ?_
  refine wm_iconst hC (pc := 506) dL_refusesAny_506 ?_
  refine wm_iconst hC (pc := 507) dL_refusesAny_507 ?_
  refine wm_iload_n hC 1 (pc := 508) dL_refusesAny_508 rfl rfl ?_
  refine wm_if_ge hC 516 (pc := 509) dL_refusesAny_509 (by decide) (by omega) (fun _ => ?_) (fun h => absurd h (by decide))
  refine wm_bipush hC (pc := 516) dL_refusesAny_516 (by decide) ?_
  refine wm_iV hC cv_L_65 kc_X8_against rfl rfl (t_againstN hO (by omega) (by omega) (by omega) (by decide)) rfl (by decide) rfl (Nat.le_of_ble_eq_true rfl) (pc := 518) dL_refusesAny_518 (fun z518 w518 hw518 => ?_)
  obtain ⟨rfl, hO⟩ := hw518
  refine wm_ldc hC (-1000001) kI_L_31 (pc := 521) dL_refusesAny_521 ?_
  refine wm_icmp_ne hC 599 (pc := 523) dL_refusesAny_523 (by decide) (by omega) (by omega) (fun h => absurd h (by decide)) (fun _ => ?_)
  refine wm_aload_n hC 0 (pc := 526) dL_refusesAny_526 rfl rfl ?_
  refine wm_iload_n hC 1 (pc := 527) dL_refusesAny_527 rfl rfl ?_
  refine wm_if_ge hC 535 (pc := 528) dL_refusesAny_528 (by decide) (by omega) (fun _ => ?_) (fun h => absurd h (by decide))
  refine wm_bipush hC (pc := 535) dL_refusesAny_535 (by decide) ?_
  refine wm_iV hC cv_L_22 kc_X8_count rfl rfl (t_count hO (by omega)) rfl (by decide) rfl (Nat.le_of_ble_eq_true rfl) (pc := 537) dL_refusesAny_537 (fun z537 w537 hw537 => ?_)
  obtain ⟨e537, hO⟩ := hw537
  rw [countA_inv (by decide) (by decide)] at e537
  subst e537
  refine wm_ldc hC (-1000001) kI_L_31 (pc := 540) dL_refusesAny_540 ?_
  refine wm_icmp_ne hC 599 (pc := 542) dL_refusesAny_542 (by decide) (by omega) (by omega) (fun h => absurd h (by decide)) (fun _ => ?_)
  refine wm_aload_n hC 0 (pc := 545) dL_refusesAny_545 rfl rfl ?_
  refine wm_iload_n hC 1 (pc := 546) dL_refusesAny_546 rfl rfl ?_
  refine wm_if_ge hC 554 (pc := 547) dL_refusesAny_547 (by decide) (by omega) (fun _ => ?_) (fun h => absurd h (by decide))
  refine wm_bipush hC (pc := 554) dL_refusesAny_554 (by decide) ?_
  refine wm_iV hC cv_L_22 kc_X8_count rfl rfl (t_count hO (by omega)) rfl (by decide) rfl (Nat.le_of_ble_eq_true rfl) (pc := 556) dL_refusesAny_556 (fun z556 w556 hw556 => ?_)
  obtain ⟨e556, hO⟩ := hw556
  rw [countA_inv (by decide) (by decide)] at e556
  subst e556
  refine wm_ldc hC (-1000001) kI_L_31 (pc := 559) dL_refusesAny_559 ?_
  refine wm_icmp_ne hC 599 (pc := 561) dL_refusesAny_561 (by decide) (by omega) (by omega) (fun h => absurd h (by decide)) (fun _ => ?_)
  refine wm_aload_n hC 0 (pc := 564) dL_refusesAny_564 rfl rfl ?_
  refine wm_iload_n hC 1 (pc := 565) dL_refusesAny_565 rfl rfl ?_
  refine wm_if_ge hC 574 (pc := 566) dL_refusesAny_566 (by decide) (by omega) (fun _ => ?_) (fun h => absurd h (by decide))
  refine wm_bipush hC (pc := 574) dL_refusesAny_574 (by decide) ?_
  refine wm_iV hC cv_L_68 kc_X8_type rfl rfl (t_typeN hO (by omega) (by decide)) rfl (by decide) rfl (Nat.le_of_ble_eq_true rfl) (pc := 576) dL_refusesAny_576 (fun z576 w576 hw576 => ?_)
  obtain ⟨rfl, hO⟩ := hw576
  refine wm_ldc hC (-1000001) kI_L_31 (pc := 579) dL_refusesAny_579 ?_
  refine wm_icmp_ne hC 599 (pc := 581) dL_refusesAny_581 (by decide) (by omega) (by omega) (fun h => absurd h (by decide)) (fun _ => ?_)
  refine wm_aload_n hC 0 (pc := 584) dL_refusesAny_584 rfl rfl ?_
  refine wm_iload hC  (pc := 585) dL_refusesAny_585 rfl ?_
  refine wm_iV hC cv_L_71 kc_X8_fault rfl rfl (t_faultN hO (by omega) (by decide)) rfl (by decide) rfl (Nat.le_of_ble_eq_true rfl) (pc := 587) dL_refusesAny_587 (fun z587 w587 hw587 => ?_)
  obtain ⟨rfl, hO⟩ := hw587
  refine wm_ldc hC (-1000001) kI_L_31 (pc := 590) dL_refusesAny_590 ?_
  refine wm_icmp_ne hC 599 (pc := 592) dL_refusesAny_592 (by decide) (by omega) (by omega) (fun h => absurd h (by decide)) (fun _ => ?_)
  refine wm_iconst hC (pc := 595) dL_refusesAny_595 ?_
  refine wm_goto hC 600 (pc := 596) dL_refusesAny_596 (by decide) ?_
  refine wm_zretI hC (pc := 600) dL_refusesAny_600 (by decide) ?_
  exact ⟨rfl, hO⟩
set_option maxRecDepth 100000 in
set_option maxHeartbeats 4000000 in
theorem t_refused {l : Launch} {G : mG} {w : mW} {P : Pn} {Hs : List Pn} {tx : List Int} {V : Int → Int} (hO : Ob w P Hs tx V) : Mx l G 8 yL_refused cL_refused 5 (some .boolean) [mvR 0] w (qI (fun z w' => z = 1 ∧ Ob w' P Hs tx V)) := by
  refine Mx.intro (by decide) RL rfl [some (mvR 0), none, none, none, none] (Nat.le_of_ble_eq_true rfl) rfl (fun K hC => ?_)
  have l4 := hO.2.2.2.2.1
  have l80 := hO.2.2.2.2.2.2.1
  refine wm_aload_n hC 0 (pc := 0) dL_refused_0 rfl rfl ?_
  refine wm_jS hC cs_L_74 kc_L_seen (t_seen hO) rfl (by decide) rfl (Nat.le_of_ble_eq_true rfl) (pc := 1) dL_refused_1 (fun z1 w1 hw1 => ?_)
  obtain ⟨e1, hO⟩ := hw1
  refine wm_lstore_n hC 1 (pc := 4) dL_refused_4 rfl (by decide) rfl ?_
  refine wm_aload_n hC 0 (pc := 5) dL_refused_5 rfl rfl ?_
  refine wm_iconst hC (pc := 6) dL_refused_6 ?_
  refine wm_iV hC cv_L_22 kc_X8_count rfl rfl (t_count hO (by omega)) rfl (by decide) rfl (Nat.le_of_ble_eq_true rfl) (pc := 7) dL_refused_7 (fun z7 w7 hw7 => ?_)
  obtain ⟨e7, hO⟩ := hw7
  have e7 : z7 = (Hs.length : Int) := e7
  refine wm_istore_n hC 3 (pc := 10) dL_refused_10 rfl (by decide) rfl ?_
  refine wm_aload_n hC 0 (pc := 11) dL_refused_11 rfl rfl ?_
  refine wm_iconst hC (pc := 12) dL_refused_12 ?_
  refine wm_iV hC cv_L_22 kc_X8_count rfl rfl (t_count hO (by omega)) rfl (by decide) rfl (Nat.le_of_ble_eq_true rfl) (pc := 13) dL_refused_13 (fun z13 w13 hw13 => ?_)
  obtain ⟨e13, hO⟩ := hw13
  have e13 : z13 = (tx.length : Int) := e13
  refine wm_istore hC  (pc := 16) dL_refused_16  (by decide) rfl ?_
  refine wm_aload_n hC 0 (pc := 18) dL_refused_18 rfl rfl ?_
  refine wm_iconst hC (pc := 19) dL_refused_19 ?_
  refine wm_iS hC cs_L_78 kc_L_refusesAny (t_refusesAnyM hO) rfl (by decide) rfl (Nat.le_of_ble_eq_true rfl) (pc := 20) dL_refused_20 (fun z20 w20 hw20 => ?_)
  obtain ⟨rfl, hO⟩ := hw20
  refine wm_if_eq hC 66 (pc := 23) dL_refused_23 (by decide) (by omega) (fun h => absurd h (by decide)) (fun _ => ?_)
  refine wm_aload_n hC 0 (pc := 26) dL_refused_26 rfl rfl ?_
  refine wm_iconst hC (pc := 27) dL_refused_27 ?_
  refine wm_iS hC cs_L_78 kc_L_refusesAny (t_refusesAnyP hO) rfl (by decide) rfl (Nat.le_of_ble_eq_true rfl) (pc := 28) dL_refused_28 (fun z28 w28 hw28 => ?_)
  obtain ⟨rfl, hO⟩ := hw28
  refine wm_if_eq hC 66 (pc := 31) dL_refused_31 (by decide) (by omega) (fun h => absurd h (by decide)) (fun _ => ?_)
  refine wm_aload_n hC 0 (pc := 34) dL_refused_34 rfl rfl ?_
  refine wm_jS hC cs_L_74 kc_L_seen (t_seen hO) rfl (by decide) rfl (Nat.le_of_ble_eq_true rfl) (pc := 35) dL_refused_35 (fun z35 w35 hw35 => ?_)
  obtain ⟨e35, hO⟩ := hw35
  refine wm_lload_n hC 1 (pc := 38) dL_refused_38 rfl rfl ?_
  refine wm_lcmp_eq hC (pc := 39) dL_refused_39 (e35.trans e1.symm) ?_
  refine wm_if_ne hC 66 (pc := 40) dL_refused_40 (by decide) (by omega) (fun h => absurd h (by decide)) (fun _ => ?_)
  refine wm_aload_n hC 0 (pc := 43) dL_refused_43 rfl rfl ?_
  refine wm_iconst hC (pc := 44) dL_refused_44 ?_
  refine wm_iV hC cv_L_22 kc_X8_count rfl rfl (t_count hO (by omega)) rfl (by decide) rfl (Nat.le_of_ble_eq_true rfl) (pc := 45) dL_refused_45 (fun z45 w45 hw45 => ?_)
  obtain ⟨e45, hO⟩ := hw45
  have e45 : z45 = (Hs.length : Int) := e45
  refine wm_iload_n hC 3 (pc := 48) dL_refused_48 rfl rfl ?_
  refine wm_icmp_ne hC 66 (pc := 49) dL_refused_49 (by decide) (by omega) (by omega) (fun h49 => ?_) (fun h49 => ?_)
  · exact absurd (e45.trans e7.symm) h49
  · refine wm_aload_n hC 0 (pc := 52) dL_refused_52 rfl rfl ?_
    refine wm_iconst hC (pc := 53) dL_refused_53 ?_
    refine wm_iV hC cv_L_22 kc_X8_count rfl rfl (t_count hO (by omega)) rfl (by decide) rfl (Nat.le_of_ble_eq_true rfl) (pc := 54) dL_refused_54 (fun z54 w54 hw54 => ?_)
    obtain ⟨e54, hO⟩ := hw54
    have e54 : z54 = (tx.length : Int) := e54
    refine wm_iload hC  (pc := 57) dL_refused_57 rfl ?_
    refine wm_icmp_ne hC 66 (pc := 59) dL_refused_59 (by decide) (by omega) (by omega) (fun h59 => ?_) (fun h59 => ?_)
    · exact absurd (e54.trans e13.symm) h59
    · refine wm_iconst hC (pc := 62) dL_refused_62 ?_
      refine wm_goto hC 67 (pc := 63) dL_refused_63 (by decide) ?_
      refine wm_zretI hC (pc := 67) dL_refused_67 (by decide) ?_
      exact ⟨rfl, hO⟩
