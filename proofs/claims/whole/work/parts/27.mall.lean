/-! the reference: all rows counted -/
def KC (u : mW) (n : Nat) : Nat := cnt (fun t : Nat => decide (u 42 (t : Int) = 1)) n
def Done (u : mW) (sx : Int → Int → Int) (n : Int) (i : Int) : Prop := ∀ t : Int, i < t → t < n → 0 ≤ t → ¬ u 42 t = 1 → ∃ k : Nat, k < 6 ∧ 0 ≤ sx t (k : Int) ∧ ¬ u 42 (sx t (k : Int)) = 1
theorem KC_le (u : mW) (n : Nat) : KC u n ≤ n := cnt_le _ n
theorem KC_up {u : mW} {n : Nat} {i : Int} (h0 : 0 ≤ i) (h1 : i < n) (hu : ¬ u 42 i = 1) : KC (mup u 42 i 1) n = KC u n + 1 := by
  obtain ⟨t, rfl⟩ : ∃ t : Nat, i = (t : Int) := ⟨i.toNat, by omega⟩
  refine cnt_add (t := t) (decide_eq_false hu) (decide_eq_true mup_at) (by omega) (fun j hj hn => ?_)
  show decide (u 42 (j : Int) = 1) = decide (mup u 42 (t : Int) 1 42 (j : Int) = 1)
  rw [mup_get, if_neg (fun q => hn (by omega))]
theorem kall_f {w : mW} {sx : Int → Int → Int} {i : Int} (h : kall w sx i = false) : ∃ k : Nat, k < 6 ∧ 0 ≤ sx i (k : Int) ∧ ¬ w 42 (sx i (k : Int)) = 1 := by
  refine Classical.byContradiction fun q => ?_
  have : kall w sx i = true := (allb_all _ 6).mpr (fun k hk => by
    unfold kallK
    by_cases a : sx i (k : Int) < 0
    · rw [decide_eq_true a]; rfl
    · by_cases b : w 42 (sx i (k : Int)) = 1
      · rw [decide_eq_true b, Bool.or_true]
      · exact absurd ⟨k, hk, by omega, b⟩ q)
  rw [h] at this; cases this
theorem kall_t {w : mW} {sx : Int → Int → Int} {i : Int} (h : kall w sx i = true) : ∀ k : Nat, k < 6 → sx i (k : Int) < 0 ∨ w 42 (sx i (k : Int)) = 1 := by
  intro k hk
  have := (allb_all _ 6).mp h k hk
  rw [kallK, Bool.or_eq_true] at this
  exact this.imp of_decide_eq_true of_decide_eq_true
theorem winv_0 {w v : mW} {sx : Int → Int → Int} {en : Int → Bool} {n : Nat} (h1 : ∀ a : Nat, a ≠ 41 → a ≠ 42 → v a = w a) (h2 : ∀ i : Int, 0 ≤ i → i < n → v 42 i = 0 ∧ v 41 i = 0) : WInv w v sx en n ∧ KC v n = 0 := by
  refine ⟨⟨h1, fun i i0 i1 => ?_, fun i i0 i1 h => ?_, fun S _ i i0 i1 h => ?_⟩, ?_⟩
  · have := h2 i i0 i1; omega
  · have := h2 i i0 i1; omega
  · have := h2 i i0 i1; omega
  · unfold KC
    have : cnt (fun t : Nat => decide (v 42 (t : Int) = 1)) n = cnt (fun _ => false) n := cnt_congr (fun t ht => decide_eq_false (by have := h2 t (by omega) (by omega); omega))
    rw [this]
    clear this h1 h2
    induction n with
    | zero => rfl
    | succ n ih => show cnt _ n + 0 = 0; omega
set_option maxRecDepth 100000 in
set_option maxHeartbeats 1000000 in
theorem s_X9_countsAll {l : Launch} {G : mG} {w : mW} {p q : Nat} {B : Bf} (hS : RSt2 w p q B) (hX : SxC (posF togT (rv w) (2 * p + 1) (2 * q + 1) B) (nxF togT (rv w) (2 * p + 1) (2 * q + 1)) B) : Mx l G 6 yX9_countsAll cX9_countsAll 6 (some .boolean) [mvR 31, mvI (p : Int), mvI (q : Int)] w (qI (fun z w' => z = mb (decide (KC w' (bN B) = bN B)) ∧ WInv w w' (posF togT (rv w) (2 * p + 1) (2 * q + 1) B) (endB (rv w) (2 * p + 1) (2 * q + 1) B) (bN B) ∧ Done w' (posF togT (rv w) (2 * p + 1) (2 * q + 1) B) (bN B) (-1))) := by
  refine Mx.intro (by decide) RX9 rfl [some (mvR 31), some (mvI (p : Int)), some (mvI (q : Int)), none, none, none] (Nat.le_of_ble_eq_true rfl) rfl (fun K hC => ?_)
  obtain ⟨hR, hp, hq, hA, hB⟩ := id hS
  have hle := hB.le
  have hsn : ∀ i k : Int, 0 ≤ i → i < bN B → 0 ≤ k → k < 6 → (posF togT (rv w) (2 * p + 1) (2 * q + 1) B) i k < bN B := fun i k a b c d => by
    rcases hX i k a b c d with h | h <;> omega
  refine wm_aload_n hC 0 (pc := 0) dX9_countsAll_0 rfl rfl ?_
  refine wm_getI hC 31 11 fl_X9_122_8 rfl rfl rfl (pc := 1) dX9_countsAll_1 ?_
  rw [hA.1]
  refine wm_istore_n hC 3 (pc := 4) dX9_countsAll_4 rfl (by decide) rfl ?_
  refine wm_iconst hC (pc := 5) dX9_countsAll_5 ?_
  refine wm_istore hC  (pc := 6) dX9_countsAll_6  (by decide) rfl ?_
  have lp8 : ∀ (n : Nat) (j : Nat) (v : mW), n = bN B - j → j ≤ bN B → (∀ a : Nat, a ≠ 41 → a ≠ 42 → v a = w a) → (∀ i : Int, 0 ≤ i → i < j → v 42 i = 0 ∧ v 41 i = 0) → Wm l G K 6 6 (qI (fun z w' => z = mb (decide (KC w' (bN B) = bN B)) ∧ WInv w w' (posF togT (rv w) (2 * p + 1) (2 * q + 1) B) (endB (rv w) (2 * p + 1) (2 * q + 1) B) (bN B) ∧ Done w' (posF togT (rv w) (2 * p + 1) (2 * q + 1) B) (bN B) (-1))) 8 [some (mvR 31), some (mvI (p : Int)), some (mvI (q : Int)), some (mvI (bN B : Int)), some (mvI (j : Int)), none] [] v := by
    intro n
    induction n using Nat.strongRecOn with
    | _ n ih =>
    intro j v hn hj hv hm
    refine wm_iload hC  (pc := 8) dX9_countsAll_8 rfl ?_
    refine wm_aload_n hC 0 (pc := 10) dX9_countsAll_10 rfl rfl ?_
    refine wm_getI hC 31 11 fl_X9_122_8 rfl rfl rfl (pc := 11) dX9_countsAll_11 ?_
    rw [hv 31 (by decide) (by decide), hA.1]
    refine wm_icmp_ge hC 39 (pc := 14) dX9_countsAll_14 (by decide) (by omega) (by omega) (fun h14 => ?_) (fun h14 => ?_)
    · refine wm_iconst hC (pc := 39) dX9_countsAll_39 ?_
      refine wm_istore hC  (pc := 40) dX9_countsAll_40  (by decide) rfl ?_
      have lp42 : ∀ (n : Nat) (g : Int) (u : mW) (lf : Int) (o5 : Option mV), n = (if g = 0 then 0 else bN B - KC u (bN B) + 1) → (g = 0 ∨ g = 1) → WInv w u (posF togT (rv w) (2 * p + 1) (2 * q + 1) B) (endB (rv w) (2 * p + 1) (2 * q + 1) B) (bN B) → lf = (bN B : Int) - (KC u (bN B) : Int) → (g = 0 → Done u (posF togT (rv w) (2 * p + 1) (2 * q + 1) B) (bN B) (-1)) → Wm l G K 6 6 (qI (fun z w' => z = mb (decide (KC w' (bN B) = bN B)) ∧ WInv w w' (posF togT (rv w) (2 * p + 1) (2 * q + 1) B) (endB (rv w) (2 * p + 1) (2 * q + 1) B) (bN B) ∧ Done w' (posF togT (rv w) (2 * p + 1) (2 * q + 1) B) (bN B) (-1))) 42 [some (mvR 31), some (mvI (p : Int)), some (mvI (q : Int)), some (mvI lf), some (mvI g), o5] [] u := by
        intro n
        induction n using Nat.strongRecOn with
        | _ n ih =>
        intro g u lf o5 hn hg hWu hlfu hgd
        have hKu := KC_le u (bN B)
        refine wm_iload hC  (pc := 42) dX9_countsAll_42 rfl ?_
        refine wm_if_eq hC 107 (pc := 44) dX9_countsAll_44 (by decide) (by omega) (fun h44 => ?_) (fun h44 => ?_)
        · refine wm_iload_n hC 3 (pc := 107) dX9_countsAll_107 rfl rfl ?_
          refine wm_if_ne hC 115 (pc := 108) dX9_countsAll_108 (by decide) (by omega) (fun h108 => ?_) (fun h108 => ?_)
          · refine wm_iconst hC (pc := 115) dX9_countsAll_115 ?_
            refine wm_zretI hC (pc := 116) dX9_countsAll_116 (by decide) ?_
            have hz : g = 0 := by omega
            refine ⟨?_, hWu, hgd hz⟩
            first | exact ((mb_0 _).mpr (decide_eq_false (by omega))).symm | exact ((mb_1 _).mpr (decide_eq_true (by omega))).symm
          · refine wm_iconst hC (pc := 111) dX9_countsAll_111 ?_
            refine wm_goto hC 116 (pc := 112) dX9_countsAll_112 (by decide) ?_
            refine wm_zretI hC (pc := 116) dX9_countsAll_116 (by decide) ?_
            have hz : g = 0 := by omega
            refine ⟨?_, hWu, hgd hz⟩
            first | exact ((mb_0 _).mpr (decide_eq_false (by omega))).symm | exact ((mb_1 _).mpr (decide_eq_true (by omega))).symm
        · refine wm_iconst hC (pc := 47) dX9_countsAll_47 ?_
          refine wm_istore hC  (pc := 48) dX9_countsAll_48  (by decide) rfl ?_
          refine wm_aload_n hC 0 (pc := 50) dX9_countsAll_50 rfl rfl ?_
          refine wm_getI hC 31 11 fl_X9_122_8 rfl rfl rfl (pc := 51) dX9_countsAll_51 ?_
          rw [hWu.1 31 (by decide) (by decide), hA.1]
          refine wm_iconst hC (pc := 54) dX9_countsAll_54 ?_
          refine wm_isub hC (pc := 55) dX9_countsAll_55 ?_
          refine wm_istore hC  (pc := 56) dX9_countsAll_56  (by decide) rfl ?_
          have lp58 : ∀ (n : Nat) (i g1 : Int) (v : mW) (lf1 : Int), n = (i + 1).toNat → (-1 ≤ i ∧ i ≤ 64) → i < (bN B : Int) → (g1 = 0 ∨ g1 = 1) → WInv w v (posF togT (rv w) (2 * p + 1) (2 * q + 1) B) (endB (rv w) (2 * p + 1) (2 * q + 1) B) (bN B) → lf1 = (bN B : Int) - (KC v (bN B) : Int) → KC u (bN B) ≤ KC v (bN B) → (g1 = 1 → KC u (bN B) < KC v (bN B)) → (g1 = 0 → Done v (posF togT (rv w) (2 * p + 1) (2 * q + 1) B) (bN B) (i)) → Wm l G K 6 6 (qI (fun z w' => z = mb (decide (KC w' (bN B) = bN B)) ∧ WInv w w' (posF togT (rv w) (2 * p + 1) (2 * q + 1) B) (endB (rv w) (2 * p + 1) (2 * q + 1) B) (bN B) ∧ Done w' (posF togT (rv w) (2 * p + 1) (2 * q + 1) B) (bN B) (-1))) 58 [some (mvR 31), some (mvI (p : Int)), some (mvI (q : Int)), some (mvI lf1), some (mvI g1), some (mvI i)] [] v := by
            intro n
            induction n using Nat.strongRecOn with
            | _ n ih =>
            intro i g1 v lf1 hm2 hi1 hi2 hgg hWv hlf hle2 hg1 hg0
            rename_i n0 ih0
            have ev : v 32 = w 32 := hWv.1 32 (by decide) (by decide)
            refine wm_iload hC  (pc := 58) dX9_countsAll_58 rfl ?_
            refine wm_if_lt hC 104 (pc := 60) dX9_countsAll_60 (by decide) (by omega) (fun h60 => ?_) (fun h60 => ?_)
            · refine wm_goto hC 42 (pc := 104) dX9_countsAll_104 (by decide) ?_
              have hi3 : i = -1 := by omega
              subst hi3
              exact ih0 _ (by
                rw [hn, if_neg h44]
                have := KC_le v (bN B)
                split
                · omega
                · have := hg1 (by omega); omega) g1 v lf1 _ rfl hgg hWv hlf hg0
            · refine wm_aload_n hC 0 (pc := 63) dX9_countsAll_63 rfl rfl ?_
              refine wm_getR hC fl_X9_42_8 rfl rfl (pc := 64) dX9_countsAll_64 ?_
              refine wm_iload hC  (pc := 67) dX9_countsAll_67 rfl ?_
              refine wm_baload hC rfl (by omega) (by decide) (pc := 69) dX9_countsAll_69 ?_
              have h01 := (hWv.2.1 i (by omega) hi2).1
              refine wm_if_ne hC 98 (pc := 70) dX9_countsAll_70 (by decide) (by omega) (fun h70 => ?_) (fun h70 => ?_)
              · refine wm_iinc hC (pc := 98) dX9_countsAll_98 rfl rfl (by decide) rfl ?_
                refine wm_goto hC 58 (pc := 101) dX9_countsAll_101 (by decide) ?_
                exact ih _ (by omega) (i + -1) g1 v lf1 rfl ⟨by omega, by omega⟩ (by omega) hgg hWv hlf hle2 hg1 (fun h => fun t a b c d => by
                  by_cases e : t = i
                  · subst e; omega
                  · exact hg0 h t (by omega) b c d)
              · refine wm_aload_n hC 0 (pc := 73) dX9_countsAll_73 rfl rfl ?_
                refine wm_iload_n hC 1 (pc := 74) dX9_countsAll_74 rfl rfl ?_
                refine wm_iload_n hC 2 (pc := 75) dX9_countsAll_75 rfl rfl ?_
                refine wm_iload hC  (pc := 76) dX9_countsAll_76 rfl ?_
                refine wm_iV hC cv_X9_171 kc_X9_counts rfl rfl (s_X9_counts ⟨hR.congr ev, hp, hq, agr_keep hA (hWv.1 _ (by decide) (by decide)) (hWv.1 _ (by decide) (by decide)) (hWv.1 _ (by decide) (by decide)) (hWv.1 _ (by decide) (by decide)) (hWv.1 _ (by decide) (by decide)) (hWv.1 _ (by decide) (by decide)), hB⟩ ⟨by omega, hi2⟩ (by rw [rv_congr ev]; exact hX) hWv.2.1) rfl (by decide) rfl (Nat.le_of_ble_eq_true rfl) (pc := 78) dX9_countsAll_78 (fun z78 w78 hw78 => ?_)
                obtain ⟨hz78, hw78b⟩ := hw78
                rw [rv_congr ev] at hz78 hw78b
                rw [hz78]
                have hu0 : ¬ v 42 i = 1 := by omega
                have hwr := wsum_rng hWv.2.1 hB hX ⟨by omega, hi2⟩ ((endB (rv w) (2 * p + 1) (2 * q + 1) B) i) 6 (by omega)
                have hcr := capI_rng hwr.1
                have hW1 : WInv w w78 (posF togT (rv w) (2 * p + 1) (2 * q + 1) B) (endB (rv w) (2 * p + 1) (2 * q + 1) B) (bN B) := by rw [hw78b]; exact hWv.way hu0 (by unfold CAP at hcr; exact hcr)
                have e42 : w78 42 = v 42 := by rw [hw78b]; exact mup_ne (by decide)
                have eK : KC w78 (bN B) = KC v (bN B) := by unfold KC; rw [e42]
                refine wm_ifb_eq hC 98 (pc := 81) dX9_countsAll_81 (by decide) (fun h81 => ?_) (fun h81 => ?_)
                · refine wm_iinc hC (pc := 98) dX9_countsAll_98 rfl rfl (by decide) rfl ?_
                  refine wm_goto hC 58 (pc := 101) dX9_countsAll_101 (by decide) ?_
                  exact ih _ (by omega) (i + -1) g1 w78 lf1 rfl ⟨by omega, by omega⟩ (by omega) hgg hW1 (by rw [eK]; exact hlf) (by rw [eK]; exact hle2) (by rw [eK]; exact hg1) (fun h => fun t a b c d => by
                    rw [e42] at d ⊢
                    by_cases e : t = i
                    · rw [e]; exact kall_f h81
                    · exact hg0 h t (by omega) b c d)
                · refine wm_aload_n hC 0 (pc := 84) dX9_countsAll_84 rfl rfl ?_
                  refine wm_getR hC fl_X9_42_8 rfl rfl (pc := 85) dX9_countsAll_85 ?_
                  refine wm_iload hC  (pc := 88) dX9_countsAll_88 rfl ?_
                  refine wm_iconst hC (pc := 90) dX9_countsAll_90 ?_
                  refine wm_bastore hC rfl (by omega) (by decide) (Or.inr rfl) (pc := 91) dX9_countsAll_91 ?_
                  refine wm_iconst hC (pc := 92) dX9_countsAll_92 ?_
                  refine wm_istore hC  (pc := 93) dX9_countsAll_93  (by decide) rfl ?_
                  refine wm_iinc hC (pc := 95) dX9_countsAll_95 rfl rfl (by decide) rfl ?_
                  refine wm_iinc hC (pc := 98) dX9_countsAll_98 rfl rfl (by decide) rfl ?_
                  refine wm_goto hC 58 (pc := 101) dX9_countsAll_101 (by decide) ?_
                  have hu1 : ¬ w78 42 i = 1 := by rw [e42]; exact hu0
                  have hK2 := KC_up (n := bN B) (show 0 ≤ i by omega) hi2 hu1
                  have hkt : ∀ k : Nat, k < 6 → (posF togT (rv w) (2 * p + 1) (2 * q + 1) B) i (k : Int) < 0 ∨ w78 42 ((posF togT (rv w) (2 * p + 1) (2 * q + 1) B) i (k : Int)) = 1 := by rw [e42]; exact kall_t h81
                  have hw41 : w78 41 i = capI (wsum w78 (posF togT (rv w) (2 * p + 1) (2 * q + 1) B) ((endB (rv w) (2 * p + 1) (2 * q + 1) B) i) i 6) := by
                    have e1 : wsum w78 (posF togT (rv w) (2 * p + 1) (2 * q + 1) B) ((endB (rv w) (2 * p + 1) (2 * q + 1) B) i) i 6 = wsum v (posF togT (rv w) (2 * p + 1) (2 * q + 1) B) ((endB (rv w) (2 * p + 1) (2 * q + 1) B) i) i 6 := wsum_congr 6 (fun k hk => by
                      rcases hkt k hk with h | h
                      · exact Or.inl h
                      · refine Or.inr ?_
                        have hne : ¬ (posF togT (rv w) (2 * p + 1) (2 * q + 1) B) i (k : Int) = i := fun x => hu1 (by rw [← x]; exact h)
                        rw [hw78b, mup_get, if_neg (fun x => hne x.2)])
                    rw [e1, hw78b, mup_at]
                  exact ih _ (by omega) (i + -1) 1 _ (lf1 + -1) rfl ⟨by omega, by omega⟩ (by omega) (Or.inr rfl) (hW1.known hsn ⟨by omega, hi2⟩ hu1 hkt hw41) (by rw [hK2, eK]; omega) (by rw [hK2, eK]; omega) (fun _ => by rw [hK2, eK]; omega) (fun h => by omega)
          exact lp58 _ ((bN B : Int) - 1) 0 u lf rfl ⟨by omega, by omega⟩ (by omega) (Or.inl rfl) hWu hlfu (Nat.le_refl _) (fun h => by omega) (fun _ t a b c _ => by omega)
      have hj2 : j = bN B := by omega
      subst hj2
      obtain ⟨hW0, hK0⟩ := winv_0 (sx := (posF togT (rv w) (2 * p + 1) (2 * q + 1) B)) (en := (endB (rv w) (2 * p + 1) (2 * q + 1) B)) hv hm
      exact lp42 _ 1 v _ none rfl (Or.inr rfl) hW0 (by rw [hK0]; omega) (fun h => by omega)
    · refine wm_aload_n hC 0 (pc := 17) dX9_countsAll_17 rfl rfl ?_
      refine wm_getR hC fl_X9_42_8 rfl rfl (pc := 18) dX9_countsAll_18 ?_
      refine wm_iload hC  (pc := 21) dX9_countsAll_21 rfl ?_
      refine wm_iconst hC (pc := 23) dX9_countsAll_23 ?_
      refine wm_bastore hC rfl (by omega) (by decide) (Or.inl rfl) (pc := 24) dX9_countsAll_24 ?_
      refine wm_aload_n hC 0 (pc := 25) dX9_countsAll_25 rfl rfl ?_
      refine wm_getR hC fl_X9_38_8 rfl rfl (pc := 26) dX9_countsAll_26 ?_
      refine wm_iload hC  (pc := 29) dX9_countsAll_29 rfl ?_
      refine wm_lconst hC 0 (pc := 31) dX9_countsAll_31 rfl ?_
      refine wm_lastore hC rfl (by omega) (by decide) (pc := 32) dX9_countsAll_32 ?_
      refine wm_iinc hC (pc := 33) dX9_countsAll_33 rfl rfl (by decide) rfl ?_
      refine wm_goto hC 8 (pc := 36) dX9_countsAll_36 (by decide) ?_
      exact ih _ (by omega) (j + 1) _ rfl (by omega) (fun a ha hb => by rw [mup_ne ha, mup_ne hb]; exact hv a ha hb) (fun i i0 i1 => by
        rw [mup_ne (show (42 : Nat) ≠ 41 by decide), mup_get, mup_get, mup_ne (show (41 : Nat) ≠ 42 by decide)]
        by_cases e : i = (j : Int)
        · rw [if_pos ⟨rfl, e⟩, if_pos ⟨rfl, e⟩]; exact ⟨rfl, rfl⟩
        · rw [if_neg (fun x => e x.2), if_neg (fun x => e x.2)]; exact hm i i0 (by omega))
  exact lp8 _ 0 w rfl (by omega) (fun _ _ _ => rfl) (fun i i0 i1 => absurd i1 (by omega))
