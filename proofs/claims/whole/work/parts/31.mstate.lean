/-! the reference: a state of a text -/
theorem RD.tg {u : mW} {D : Int → Int} (h : RD u D) {b b' v v' : Int} (hb : b' = b) (h7 : ¬ b % 7 = 0) (hv : v' = v + 1) : RD (mup u 43 b' v') (iup D b v) := by
  intro x x0 x1
  rw [mup_get]
  by_cases e : x = b
  · rw [if_pos ⟨rfl, by omega⟩, e, iup_at, if_neg h7, hv]
  · rw [if_neg (fun q => e (by omega)), iup_ne _ _ e]; exact h x x0 x1
theorem RD.kd {u : mW} {D : Int → Int} (h : RD u D) {b b' v v' : Int} (hb : b' = b) (h7 : b % 7 = 0) (hv : v' = v) : RD (mup u 43 b' v') (iup D b v) := by
  intro x x0 x1
  rw [mup_get]
  by_cases e : x = b
  · rw [if_pos ⟨rfl, by omega⟩, e, iup_at, if_pos h7, hv]
  · rw [if_neg (fun q => e (by omega)), iup_ne _ _ e]; exact h x x0 x1
theorem RD.congr {u v : mW} {D : Int → Int} (h : RD u D) (e : v 43 = u 43) : RD v D := fun b b0 b1 => by rw [e]; exact h b b0 b1
theorem tkp_2 {c : Int → Int} {s p : Int} {T : Tx} {t : Nat} (ht : c s - 48 = (t : Int)) (hb : T.1.testBit t = true) : tkP c s p T = tF T s 2 (-1) := by
  unfold tkP; rw [ht, Int.toNat_natCast, if_pos hb]
theorem tkp_a {c : Int → Int} {s p : Int} {T : Tx} {t m : Nat} (ht : c s - 48 = (t : Int)) (hb : T.1.testBit t = false) (hp : p = s + 2 + 2 * (m : Int)) : tkP c s p T = tkA c (t : Int) s m (s + 2) (T.1 ||| 2 ^ t, iup T.2.1 ((t : Int) * 7) (kdC (c (s + 1))), T.2.2) := by
  unfold tkP
  rw [ht, Int.toNat_natCast, if_neg (by rw [hb]; decide), show ((p - s - 2) / 2).toNat = m by omega]
theorem tkp_tw {c : Int → Int} {s p : Int} {T : Tx} {t m : Nat} {u : mW} (ht : c s - 48 = (t : Int)) (ht8 : t < 8) (hb : T.1.testBit t = false) (hp : p = s + 2 + 2 * (m : Int)) (hA : ArK c u (s + 2) m) (hTf : TFr T) :
    (twA (u 44) m 0 0 = -1 → tkP c s p T = (T.1 ||| 2 ^ t, dfo c (t : Int) m (s + 2) (iup T.2.1 ((t : Int) * 7) (kdC (c (s + 1)))), T.2.2)) ∧ (¬ twA (u 44) m 0 0 = -1 → (tkP c s p T).2.2 = (s, 3, twA (u 44) m 0 0)) := by
  rw [tkp_a ht hb hp]
  exact tka_tw m (s + 2) (T.1 ||| 2 ^ t, iup T.2.1 ((t : Int) * 7) (kdC (c (s + 1))), T.2.2) 0 0 (u 44) (fun j j0 j1 => by
    rw [show ((0 : Nat) : Int) + j = j by omega]
    have := hA j j0 j1
    exact ⟨this.1, by omega⟩) (fun x x0 x6 => by
    have e : iup T.2.1 ((t : Int) * 7) (kdC (c (s + 1))) ((t : Int) * 7 + 1 + x) = -1 := by rw [iup_ne _ _ (by omega)]; exact hTf t ht8 hb x x0 x6
    show _ ↔ ¬ iup T.2.1 ((t : Int) * 7) (kdC (c (s + 1))) ((t : Int) * 7 + 1 + x) = -1
    rw [e]
    simp)
theorem rdR_2 {w u : mW} {T : Tx} {s p : Int} {t : Nat} (hF : FrS w u) (hT : TI u) (h15 : u 31 15 = s) (hs : scan (cR w) s = (5, p)) (ht : cR w s - 48 = (t : Int)) (hb : T.1.testBit t = true) (h18 : u 31 18 = -1000004) : RdR w u T s 2 := by
  have e : nxT (cR w) s T = tF T s 2 (-1) := (nxT_5 hs).trans (tkp_2 ht hb)
  refine ⟨hF, hT, h15, by rw [e]; rfl, Or.inr (Or.inr (Or.inl rfl)), fun _ => ?_, fun h => by omega⟩
  rw [e]
  exact ⟨rfl, h18⟩
theorem rdR_3 {w u y : mW} {T : Tx} {s p : Int} {t m : Nat} (hF : FrS w u) (hT : TI u) (h15 : u 31 15 = s) (hs : scan (cR w) s = (5, p)) (ht : cR w s - 48 = (t : Int)) (ht8 : t < 8) (hb : T.1.testBit t = false) (hp : p = s + 2 + 2 * (m : Int)) (hA : ArK (cR w) y (s + 2) m) (hTf : TFr T) (htw : ¬ twA (y 44) m 0 0 = -1) (h18 : u 31 18 = twA (y 44) m 0 0) : RdR w u T s 3 := by
  have e : (nxT (cR w) s T).2.2 = (s, 3, twA (y 44) m 0 0) := by rw [nxT_5 hs]; exact (tkp_tw ht ht8 hb hp hA hTf).2 htw
  refine ⟨hF, hT, h15, by rw [e], Or.inr (Or.inr (Or.inr rfl)), fun _ => ?_, fun h => by omega⟩
  rw [e]
  exact ⟨rfl, by rw [if_neg htw]; exact h18⟩
theorem rdR_0 {w u y : mW} {T : Tx} {s p : Int} {t m : Nat} (hF : FrS w u) (hT : TI u) (h15 : u 31 15 = s) (hs : scan (cR w) s = (5, p)) (ht : cR w s - 48 = (t : Int)) (ht8 : t < 8) (hb : T.1.testBit t = false) (hp : p = s + 2 + 2 * (m : Int)) (hA : ArK (cR w) y (s + 2) m) (hTf : TFr T) (hO : T.1 < 256) (htw : twA (y 44) m 0 0 = -1) (h14 : u 31 14 = p + 1) (hr : T.2.2.2.1 = 0) (h19 : u 31 19 = ((T.1 ||| 2 ^ t : Nat) : Int)) (h20 : u 31 20 = ((mpop T.1 : Nat) : Int) + 1) (hRD : RD u (dfo (cR w) (t : Int) m (s + 2) (iup T.2.1 ((t : Int) * 7) (kdC (cR w (s + 1)))))) : RdR w u T s 0 := by
  have e : nxT (cR w) s T = (T.1 ||| 2 ^ t, dfo (cR w) (t : Int) m (s + 2) (iup T.2.1 ((t : Int) * 7) (kdC (cR w (s + 1)))), T.2.2) := by rw [nxT_5 hs]; exact (tkp_tw ht ht8 hb hp hA hTf).1 htw
  refine ⟨hF, hT, h15, by rw [e]; exact hr.symm, Or.inl rfl, fun h => absurd rfl h, fun _ => ⟨by rw [hs], ?_, ?_, by rw [hs]; exact h14, by rw [e]; exact Nat.or_lt_two_pow (n := 8) hO (Nat.pow_lt_pow_right (by decide) (by omega))⟩⟩
  · rw [e]
    refine ⟨h19, ?_, hRD⟩
    show u 31 20 = ((mpop (T.1 ||| 2 ^ t) : Nat) : Int)
    rw [mpop_or ht8 hb, h20]; rfl
  · rw [e]
    intro t' ht' hb' k k0 k6
    have hb2 : (T.1 ||| 2 ^ t).testBit t' = false := hb'
    rw [Nat.testBit_or, Bool.or_eq_false_iff, Nat.testBit_two_pow] at hb2
    have hne : ¬ t = t' := of_decide_eq_false hb2.2
    show dfo (cR w) (t : Int) m (s + 2) (iup T.2.1 ((t : Int) * 7) (kdC (cR w (s + 1)))) ((t' : Int) * 7 + 1 + k) = -1
    rw [dfo_ne m (s + 2) _ _ (fun j j0 j1 => by have := (hA j j0 j1).1; omega) (by omega), iup_ne _ _ (by omega)]
    exact hTf t' ht' hb2.1 k k0 k6
set_option maxRecDepth 100000 in
set_option maxHeartbeats 1000000 in
theorem s_X9_readState {l : Launch} {G : mG} {w : mW} {T : Tx} (hTI : TI w) (hlt : w 31 14 < w 31 4) (hV : RVd w T) (hO : T.1 < 256) (hTf : TFr T) (hr : T.2.2.2.1 = 0) : Mx l G 3 yX9_readState cX9_readState 4 (some .int) [mvR 31] w (qI (fun z w' => RdR w w' T (w 31 14) z)) := by
  refine Mx.intro (by decide) RX9 rfl [some (mvR 31), none, none, none] (Nat.le_of_ble_eq_true rfl) rfl (fun K hC => ?_)
  have hx0 := hTI.2.2
  have hx4 := hTI.1
  have j65 : ∀ (u : mW) (t kd p : Int), FrS w u → TI u → u 31 15 = w 31 14 → scan (cR w) (w 31 14) = (6, p) → u 31 14 = p → w 31 14 ≤ p → Wm l G K 3 4 (qI (fun z w' => RdR w w' T (w 31 14) z)) 65 [some (mvR 31), some (mvI t), some (mvI kd), none] [] u := by
    intro u t kd p hFu hTu h15 hsc hp hle
    refine wm_aload_n hC 0 (pc := 65) dX9_readState_65 rfl rfl ?_
    refine wm_iV hC cv_X9_237 kc_X9_breaksOff rfl rfl (s_X9_breaksOff) rfl (by decide) rfl (Nat.le_of_ble_eq_true rfl) (pc := 66) dX9_readState_66 (fun z66 w66 hw66 => ?_)
    obtain ⟨hz66, hw66b⟩ := hw66
    rw [hz66, hw66b]
    refine wm_iretI hC (pc := 69) dX9_readState_69 ?_
    exact rdR_6 hFu hTu h15 hsc hp hle
  have j54 : ∀ (u : mW) (t m : Nat) (kd : Int), FrS w u → TI u → u 31 15 = w 31 14 → u 31 24 = (m : Int) → ArK (cR w) u (w 31 14 + 2) m → 2 * m ≤ 78 → u 31 14 = w 31 14 + 2 + 2 * (m : Int) → ScE (cR w) (w 31 14) (w 31 14 + 2 + 2 * (m : Int)) → t < 8 → cR w (w 31 14) - 48 = (t : Int) → kd = kdC (cR w (w 31 14 + 1)) → (u 31 19 = w 31 19 ∧ u 31 20 = w 31 20 ∧ u 43 = w 43) → Wm l G K 3 4 (qI (fun z w' => RdR w w' T (w 31 14) z)) 54 [some (mvR 31), some (mvI (t : Int)), some (mvI kd), none] [] u := by
    intro u t m kd hFu hTu h15 h24 hA hm h14 hsc ht8 ht hkd hku
    refine wm_aload_n hC 0 (pc := 54) dX9_readState_54 rfl rfl ?_
    refine wm_bipush hC (pc := 55) dX9_readState_55 (by decide) ?_
    refine wm_bipush hC (pc := 57) dX9_readState_57 (by decide) ?_
    refine wm_iV hC cv_X9_225 kc_X9_takes rfl rfl (s_X9_takes hTu (by decide)) rfl (by decide) rfl (Nat.le_of_ble_eq_true rfl) (pc := 59) dX9_readState_59 (fun z59 w59 hw59 => ?_)
    obtain ⟨b59, hz59, hT59⟩ := hw59
    rw [hz59]
    refine wm_ifb_ne hC 70 (pc := 62) dX9_readState_62 (by decide) (fun h62 => ?_) (fun h62 => ?_)
    · have q59 : cR w (w 31 14 + 2 + 2 * (m : Int)) = 59 ∧ w59 31 14 = w 31 14 + 2 + 2 * (m : Int) + 1 := by
        rcases hT59.2 with h | h
        · rw [hFu.c, h14] at h; exact ⟨by omega, h.2.2.2⟩
        · rw [h62] at h; cases h.1
      refine wm_aload_n hC 0 (pc := 70) dX9_readState_70 rfl rfl ?_
      refine wm_ldc hC (-1000004) kI_X9_121 (pc := 71) dX9_readState_71 ?_
      refine wm_putI hC 31 18 fp_X9_234_8 rfl rfl rfl (pc := 73) dX9_readState_73 ?_
      obtain ⟨y, hy⟩ : ∃ y, y = mup w59 31 18 (-1000004) := ⟨_, rfl⟩
      rw [← hy]
      have ya : ∀ a : Nat, a ≠ 31 → y a = u a := fun a ha => by rw [hy, mup_ne ha]; exact hT59.1.1 a ha
      have yb : ∀ b : Int, b ≠ 14 → b ≠ 16 → b ≠ 18 → y 31 b = u 31 b := fun b h1 h2 h3 => by rw [hy, mup_get, if_neg (fun q => h3 q.2)]; exact hT59.1.2 b h1 h2
      have y18 : y 31 18 = -1000004 := by rw [hy, mup_at]
      have y14 : y 31 14 = w 31 14 + 2 + 2 * (m : Int) + 1 := by rw [hy, mup_get, if_neg (by omega)]; exact q59.2
      have y15 : y 31 15 = w 31 14 := (yb 15 (by decide) (by decide) (by decide)).trans h15
      have y24 : y 31 24 = (m : Int) := (yb 24 (by decide) (by decide) (by decide)).trans h24
      have hFy : FrS w y := hFu.trans ⟨fun a h1 _ _ _ => ya a h1, fun b hb => yb b (by omega) (by omega) (by omega)⟩
      have hTi59 := hT59.ti (by decide) hTu
      have hTy : TI y := hTi59.congr (by rw [hy, mup_get, if_neg (by omega)]) (by rw [hy, mup_ne (by decide)]) (by rw [hy, mup_get, if_neg (by omega)]; exact hTi59.2.2)
      have hAy : ArK (cR w) y (w 31 14 + 2) m := fun k k0 k1 => by rw [ya 44 (by decide), ya 45 (by decide)]; exact hA k k0 k1
      have y19 : y 31 19 = (T.1 : Int) := (yb 19 (by decide) (by decide) (by decide)).trans (hku.1.trans hV.1)
      have y20 : y 31 20 = ((mpop T.1 : Nat) : Int) := (yb 20 (by decide) (by decide) (by decide)).trans (hku.2.1.trans hV.2.1)
      have y43 : RD y T.2.1 := hV.2.2.congr ((ya 43 (by decide)).trans hku.2.2)
      have hO1 := hO
      have hs5 := hsc.1 q59.1
      refine wm_aload_n hC 0 (pc := 76) dX9_readState_76 rfl rfl ?_
      refine wm_getI hC 31 19 fl_X9_247_8 rfl rfl rfl (pc := 77) dX9_readState_77 ?_
      refine wm_iload_n hC 1 (pc := 80) dX9_readState_80 rfl rfl ?_
      refine wm_ishr hC T.1 t (pc := 81) dX9_readState_81 y19 rfl (by omega) (by omega) ?_
      refine wm_iconst hC (pc := 82) dX9_readState_82 ?_
      refine wm_iand hC (T.1 / 2 ^ t) 1 (pc := 83) dX9_readState_83 rfl rfl ?_
      rw [mtb]
      have hbt : (T.1.testBit t).toNat < 2 := by cases T.1.testBit t <;> decide
      refine wm_iconst hC (pc := 84) dX9_readState_84 ?_
      refine wm_icmp_ne hC 90 (pc := 85) dX9_readState_85 (by decide) (by omega) (by omega) (fun h85 => ?_) (fun h85 => ?_)
      · have hb : T.1.testBit t = false := by cases hb : T.1.testBit t <;> simp [hb] at h85 ⊢
        refine wm_aload_n hC 0 (pc := 90) dX9_readState_90 rfl rfl ?_
        refine wm_pV hC cv_X9_250 kc_X9_twice rfl rfl (s_X9_twice y24 (by omega) (fun k k0 k1 => (hAy k k0 k1).1.2)) rfl (by decide) rfl (Nat.le_of_ble_eq_true rfl) (pc := 91) dX9_readState_91 ?_
        have htw := twA_rng (g := y 44) m 0 0 (fun j j0 j1 => (hAy j (by omega) (by omega)).1.2)
        refine wm_if_lt hC 107 (pc := 94) dX9_readState_94 (by decide) (by omega) (fun h94 => ?_) (fun h94 => ?_)
        · refine wm_aload_n hC 0 (pc := 107) dX9_readState_107 rfl rfl ?_
          refine wm_dup hC (pc := 108) dX9_readState_108 rfl ?_
          refine wm_getI hC 31 19 fl_X9_247_8 rfl rfl rfl (pc := 109) dX9_readState_109 ?_
          refine wm_iconst hC (pc := 112) dX9_readState_112 ?_
          refine wm_iload_n hC 1 (pc := 113) dX9_readState_113 rfl rfl ?_
          refine wm_ishl1 hC t (pc := 114) dX9_readState_114 rfl (by omega) ?_
          refine wm_ior hC T.1 (2 ^ t) (pc := 115) dX9_readState_115 y19 rfl ?_
          refine wm_putI hC 31 19 fp_X9_247_8 rfl rfl rfl (pc := 116) dX9_readState_116 ?_
          refine wm_aload_n hC 0 (pc := 119) dX9_readState_119 rfl rfl ?_
          refine wm_dup hC (pc := 120) dX9_readState_120 rfl ?_
          refine wm_getI hC 31 20 fl_X9_253_8 rfl rfl rfl (pc := 121) dX9_readState_121 ?_
          refine wm_iconst hC (pc := 124) dX9_readState_124 ?_
          refine wm_iadd hC (pc := 125) dX9_readState_125 ?_
          refine wm_putI hC 31 20 fp_X9_253_8 rfl rfl rfl (pc := 126) dX9_readState_126 ?_
          obtain ⟨y2, hy2⟩ : ∃ y2, y2 = mup (mup y 31 19 ((T.1 ||| 2 ^ t : Nat) : Int)) 31 20 (mup y 31 19 ((T.1 ||| 2 ^ t : Nat) : Int) 31 20 + 1) := ⟨_, rfl⟩
          rw [← hy2]
          have y2a : ∀ a : Nat, a ≠ 31 → y2 a = y a := fun a ha => by rw [hy2, mup_ne ha, mup_ne ha]
          have y2b : ∀ b : Int, b ≠ 19 → b ≠ 20 → y2 31 b = y 31 b := fun b h1 h2 => by rw [hy2]; simp [mup, h1, h2]
          have y219 : y2 31 19 = ((T.1 ||| 2 ^ t : Nat) : Int) := by rw [hy2, mup_get, if_neg (by omega), mup_at]
          have y220 : y2 31 20 = ((mpop T.1 : Nat) : Int) + 1 := by rw [hy2, mup_at, mup_get, if_neg (by omega), y20]
          have hkr : 0 ≤ kd ∧ kd < 3 := by rw [hkd]; unfold kdC; (repeat' split) <;> omega
          refine wm_aload_n hC 0 (pc := 129) dX9_readState_129 rfl rfl ?_
          refine wm_getR hC fl_X9_46_8 rfl rfl (pc := 130) dX9_readState_130 ?_
          refine wm_bipush hC (pc := 133) dX9_readState_133 (by decide) ?_
          refine wm_iload_n hC 1 (pc := 135) dX9_readState_135 rfl rfl ?_
          refine wm_imul hC (pc := 136) dX9_readState_136 ?_
          refine wm_iload_n hC 2 (pc := 137) dX9_readState_137 rfl rfl ?_
          refine wm_iastore hC rfl (by omega) (by decide) (pc := 138) dX9_readState_138 ?_
          obtain ⟨y3, hy3⟩ : ∃ y3, y3 = mup y2 43 (7 * (t : Int)) kd := ⟨_, rfl⟩
          rw [← hy3]
          have e31b : y3 31 = y2 31 := by rw [hy3]; exact mup_ne (by decide)
          have y3a : ∀ a : Nat, a ≠ 31 → a ≠ 43 → y3 a = y a := fun a h1 h2 => by rw [hy3, mup_ne h2]; exact y2a a h1
          have y3b : ∀ b : Int, b ≠ 19 → b ≠ 20 → y3 31 b = y 31 b := fun b h1 h2 => by rw [e31b]; exact y2b b h1 h2
          have hRD3 : RD y3 (iup T.2.1 ((t : Int) * 7) (kdC (cR w (w 31 14 + 1)))) := by rw [hy3, ← hkd]; exact (y43.congr (y2a 43 (by decide))).kd (by omega) (by omega) rfl
          refine wm_iconst hC (pc := 139) dX9_readState_139 ?_
          refine wm_istore_n hC 3 (pc := 140) dX9_readState_140 rfl (by decide) rfl ?_
          have lp141 : ∀ (n : Nat) (j : Nat) (v2 : mW) (D2 : Int → Int), n = m - j → j ≤ m → (∀ a : Nat, a ≠ 43 → v2 a = y3 a) → RD v2 D2 → dfo (cR w) (t : Int) m (w 31 14 + 2) (iup T.2.1 ((t : Int) * 7) (kdC (cR w (w 31 14 + 1)))) = dfo (cR w) (t : Int) (m - j) (w 31 14 + 2 + 2 * (j : Int)) D2 → Wm l G K 3 4 (qI (fun z w' => RdR w w' T (w 31 14) z)) 141 [some (mvR 31), some (mvI (t : Int)), some (mvI kd), some (mvI (j : Int))] [] v2 := by
            intro n
            induction n using Nat.strongRecOn with
            | _ n ih =>
            intro j v2 D2 hn hj hv2 hRD2 he
            refine wm_iload_n hC 3 (pc := 141) dX9_readState_141 rfl rfl ?_
            refine wm_aload_n hC 0 (pc := 142) dX9_readState_142 rfl rfl ?_
            refine wm_getI hC 31 24 fl_X9_228_8 rfl rfl rfl (pc := 143) dX9_readState_143 ?_
            rw [hv2 31 (by decide), y3b 24 (by decide) (by decide), y24]
            refine wm_icmp_ge hC 181 (pc := 146) dX9_readState_146 (by decide) (by omega) (by omega) (fun h146 => ?_) (fun h146 => ?_)
            · refine wm_iconst hC (pc := 181) dX9_readState_181 ?_
              refine wm_iretI hC (pc := 182) dX9_readState_182 ?_
              have : j = m := by omega
              subst this
              rw [Nat.sub_self] at he
              have e31 : v2 31 = y3 31 := hv2 31 (by decide)
              have fF : FrS y v2 := ⟨fun a h1 h2 _ _ => (hv2 a h2).trans (y3a a h1 h2), fun b hb => by rw [e31]; exact y3b b (by omega) (by omega)⟩
              exact rdR_0 (y := y) (hFy.trans fF) (hTy.congr (by rw [e31]; exact y3b 4 (by decide) (by decide)) ((hv2 34 (by decide)).trans (y3a 34 (by decide) (by decide))) (by rw [e31, y3b 14 (by decide) (by decide)]; exact hTy.2.2)) (by rw [e31, y3b 15 (by decide) (by decide)]; exact y15) hs5 ht ht8 hb rfl hAy hTf hO1 (by omega) (by rw [e31, y3b 14 (by decide) (by decide)]; exact y14) hr (by rw [e31, e31b]; exact y219) (by rw [e31, e31b]; exact y220) (by rw [he]; exact hRD2)
            · refine wm_aload_n hC 0 (pc := 149) dX9_readState_149 rfl rfl ?_
              refine wm_getR hC fl_X9_46_8 rfl rfl (pc := 150) dX9_readState_150 ?_
              refine wm_bipush hC (pc := 153) dX9_readState_153 (by decide) ?_
              refine wm_iload_n hC 1 (pc := 155) dX9_readState_155 rfl rfl ?_
              refine wm_imul hC (pc := 156) dX9_readState_156 ?_
              refine wm_iconst hC (pc := 157) dX9_readState_157 ?_
              refine wm_iadd hC (pc := 158) dX9_readState_158 ?_
              refine wm_aload_n hC 0 (pc := 159) dX9_readState_159 rfl rfl ?_
              refine wm_getR hC fl_X9_49_8 rfl rfl (pc := 160) dX9_readState_160 ?_
              refine wm_iload_n hC 3 (pc := 163) dX9_readState_163 rfl rfl ?_
              refine wm_iaload hC rfl (by omega) (by decide) (pc := 164) dX9_readState_164 ?_
              refine wm_iadd hC (pc := 165) dX9_readState_165 ?_
              refine wm_aload_n hC 0 (pc := 166) dX9_readState_166 rfl rfl ?_
              refine wm_getR hC fl_X9_52_8 rfl rfl (pc := 167) dX9_readState_167 ?_
              refine wm_iload_n hC 3 (pc := 170) dX9_readState_170 rfl rfl ?_
              refine wm_iaload hC rfl (by omega) (by decide) (pc := 171) dX9_readState_171 ?_
              refine wm_iconst hC (pc := 172) dX9_readState_172 ?_
              refine wm_iadd hC (pc := 173) dX9_readState_173 ?_
              have hkj := hAy (j : Int) (by omega) (by omega)
              have e44 : v2 44 = y 44 := (hv2 44 (by decide)).trans (y3a 44 (by decide) (by decide))
              have e45 : v2 45 = y 45 := (hv2 45 (by decide)).trans (y3a 45 (by decide) (by decide))
              rw [e44, e45]
              refine wm_iastore hC rfl (by omega) (by decide) (pc := 174) dX9_readState_174 ?_
              refine wm_iinc hC (pc := 175) dX9_readState_175 rfl rfl (by decide) rfl ?_
              refine wm_goto hC 141 (pc := 178) dX9_readState_178 (by decide) ?_
              exact ih _ (by omega) (j + 1) _ _ rfl (by omega) (fun a ha => by rw [mup_ne ha]; exact hv2 a ha) (hRD2.tg (b := (t : Int) * 7 + 1 + (cR w (w 31 14 + 2 + 2 * (j : Int)) - 97)) (v := cR w (w 31 14 + 2 + 2 * (j : Int) + 1) - 48) (by omega) (by omega) (by omega)) (by rw [he, show m - j = (m - (j + 1)) + 1 by omega, show w 31 14 + 2 + 2 * ((j + 1 : Nat) : Int) = w 31 14 + 2 + 2 * (j : Int) + 2 by omega]; rfl)
          exact lp141 _ 0 y3 _ rfl (by omega) (fun _ _ => rfl) hRD3 (by rw [show w 31 14 + 2 + 2 * ((0 : Nat) : Int) = w 31 14 + 2 by omega, Nat.sub_zero])
        · refine wm_aload_n hC 0 (pc := 97) dX9_readState_97 rfl rfl ?_
          refine wm_aload_n hC 0 (pc := 98) dX9_readState_98 rfl rfl ?_
          refine wm_pV hC cv_X9_250 kc_X9_twice rfl rfl (s_X9_twice y24 (by omega) (fun k k0 k1 => (hAy k k0 k1).1.2)) rfl (by decide) rfl (Nat.le_of_ble_eq_true rfl) (pc := 99) dX9_readState_99 ?_
          refine wm_putI hC 31 18 fp_X9_234_8 rfl rfl rfl (pc := 102) dX9_readState_102 ?_
          refine wm_iconst hC (pc := 105) dX9_readState_105 ?_
          refine wm_iretI hC (pc := 106) dX9_readState_106 ?_
          exact rdR_3 (y := y) (hFy.trans ⟨fun a h1 _ _ _ => mup_ne h1, fun b hb => by rw [mup_get, if_neg (by omega)]⟩) (hTy.congr (by rw [mup_get, if_neg (by omega)]) (mup_ne (by decide)) (by rw [mup_get, if_neg (by omega)]; exact hTy.2.2)) (by rw [mup_get, if_neg (by omega)]; exact y15) hs5 ht ht8 hb rfl hAy hTf (by omega) mup_at
      · have hb : T.1.testBit t = true := by cases hb : T.1.testBit t <;> simp [hb] at h85 ⊢
        refine wm_iconst hC (pc := 88) dX9_readState_88 ?_
        refine wm_iretI hC (pc := 89) dX9_readState_89 ?_
        exact rdR_2 hFy hTy y15 hs5 ht hb y18
    · have q59 : ¬ cR w (w 31 14 + 2 + 2 * (m : Int)) = 59 ∧ w59 31 14 = w 31 14 + 2 + 2 * (m : Int) := by
        rcases hT59.2 with h | h
        · rw [h62] at h; cases h.1
        · rw [hFu.c, h14] at h; exact ⟨by omega, h.2.2⟩
      exact j65 w59 (t : Int) kd _ (hFu.trans hT59.fr.s) (hT59.ti (by decide) hTu) ((hT59.1.2 15 (by decide) (by decide)).trans h15) (hsc.2 q59.1) q59.2 (by omega)
  refine wm_aload_n hC 0 (pc := 0) dX9_readState_0 rfl rfl ?_
  refine wm_aload_n hC 0 (pc := 1) dX9_readState_1 rfl rfl ?_
  refine wm_getI hC 31 14 fl_X9_219_8 rfl rfl rfl (pc := 2) dX9_readState_2 ?_
  refine wm_putI hC 31 15 fp_X9_231_8 rfl rfl rfl (pc := 5) dX9_readState_5 ?_
  refine wm_aload_n hC 0 (pc := 8) dX9_readState_8 rfl rfl ?_
  refine wm_iconst hC (pc := 9) dX9_readState_9 ?_
  refine wm_putI hC 31 24 fp_X9_228_8 rfl rfl rfl (pc := 10) dX9_readState_10 ?_
  obtain ⟨v, hv⟩ : ∃ v, v = mup (mup w 31 15 (w 31 14)) 31 24 0 := ⟨_, rfl⟩
  rw [← hv]
  have v14 : v 31 14 = w 31 14 := by rw [hv]; simp [mup]
  have v15 : v 31 15 = w 31 14 := by rw [hv]; simp [mup]
  have v24 : v 31 24 = 0 := by rw [hv]; simp [mup]
  have va : ∀ a : Nat, a ≠ 31 → v a = w a := fun a ha => by rw [hv, mup_ne ha, mup_ne ha]
  have vb : ∀ b : Int, b ≠ 15 → b ≠ 24 → v 31 b = w 31 b := fun b h1 h2 => by rw [hv]; simp [mup, h1, h2]
  have fv : FrS w v := ⟨fun a h1 _ _ _ => va a h1, fun b hb => vb b (by omega) (by omega)⟩
  have hTv : TI v := hTI.congr (vb 4 (by decide) (by decide)) (va 34 (by decide)) (by omega)
  have cv : cR v = cR w := fv.c
  refine wm_aload_n hC 0 (pc := 13) dX9_readState_13 rfl rfl ?_
  refine wm_bipush hC (pc := 14) dX9_readState_14 (by decide) ?_
  refine wm_bipush hC (pc := 16) dX9_readState_16 (by decide) ?_
  refine wm_iV hC cv_X9_225 kc_X9_takes rfl rfl (s_X9_takes hTv (by decide)) rfl (by decide) rfl (Nat.le_of_ble_eq_true rfl) (pc := 18) dX9_readState_18 (fun z18 w18 hw18 => ?_)
  obtain ⟨b18, hz18, hT18⟩ := hw18
  rw [hz18]
  refine wm_ifb_ne hC 29 (pc := 21) dX9_readState_21 (by decide) (fun h21 => ?_) (fun h21 => ?_)
  · have q18 : (48 ≤ cR w (w 31 14) ∧ cR w (w 31 14) ≤ 55) ∧ w18 31 16 = cR w (w 31 14) - 48 ∧ w18 31 14 = w 31 14 + 1 := by
      rcases hT18.2 with h | h
      · rw [cv, v14] at h; exact ⟨h.2.1, h.2.2.1, h.2.2.2⟩
      · rw [h21] at h; cases h.1
    refine wm_aload_n hC 0 (pc := 29) dX9_readState_29 rfl rfl ?_
    refine wm_getI hC 31 16 fl_X9_222_8 rfl rfl rfl (pc := 30) dX9_readState_30 ?_
    obtain ⟨t, ht⟩ : ∃ t : Nat, w18 31 16 = (t : Int) := ⟨(w18 31 16).toNat, by omega⟩
    rw [ht]
    have htc : cR w (w 31 14) - 48 = (t : Int) := by omega
    have ht8 : t < 8 := by omega
    refine wm_istore_n hC 1 (pc := 33) dX9_readState_33 rfl (by decide) rfl ?_
    refine wm_aload_n hC 0 (pc := 34) dX9_readState_34 rfl rfl ?_
    refine wm_iV hC cv_X9_240 kc_X9_kindTaken rfl rfl (s_X9_kindTaken (hT18.ti (by decide) hTv)) rfl (by decide) rfl (Nat.le_of_ble_eq_true rfl) (pc := 35) dX9_readState_35 (fun z35 w35 hw35 => ?_)
    obtain ⟨hF35, hTi35, hk35, hc35⟩ := hw35
    have c18 : cR w18 = cR w := hT18.fr.c.trans cv
    have f18 : FrS w w18 := fv.trans hT18.fr.s
    have f35 : FrS w w35 := f18.trans hF35.s
    rw [c18, q18.2.2] at hc35
    have h15b : w35 31 15 = w 31 14 := (hF35.2 15 (by decide) (by decide) (by decide)).trans ((hT18.1.2 15 (by decide) (by decide)).trans v15)
    have h24b : w35 31 24 = 0 := hk35.2.trans ((hT18.1.2 24 (by decide) (by decide)).trans v24)
    have hkb : w35 31 19 = w 31 19 ∧ w35 31 20 = w 31 20 ∧ w35 43 = w 43 := ⟨(hF35.2 19 (by decide) (by decide) (by decide)).trans ((hT18.1.2 19 (by decide) (by decide)).trans (vb 19 (by decide) (by decide))), (hF35.2 20 (by decide) (by decide) (by decide)).trans ((hT18.1.2 20 (by decide) (by decide)).trans (vb 20 (by decide) (by decide))), (hk35.1 43 (by decide)).trans ((hT18.1.1 43 (by decide)).trans (va 43 (by decide)))⟩
    have hz35 : -1 ≤ z35 ∧ z35 < 3 := by
      rcases hc35 with h | h
      · have e := h.2.2.1
        unfold kdC at e
        (repeat' split at e) <;> omega
      · omega
    refine wm_istore_n hC 2 (pc := 38) dX9_readState_38 rfl (by decide) rfl ?_
    refine wm_iload_n hC 2 (pc := 39) dX9_readState_39 rfl rfl ?_
    refine wm_if_lt hC 65 (pc := 40) dX9_readState_40 (by decide) (by omega) (fun h40 => ?_) (fun h40 => ?_)
    · have q35 : ¬ (cR w (w 31 14 + 1) = 46 ∨ cR w (w 31 14 + 1) = 33 ∨ cR w (w 31 14 + 1) = 63) ∧ w35 31 14 = w 31 14 + 1 := by
        rcases hc35 with h | h
        · omega
        · exact h.2
      exact j65 w35 (t : Int) z35 _ f35 hTi35 h15b (scan_k0 q18.1 q35.1) q35.2 (by omega)
    · have q35 : (cR w (w 31 14 + 1) = 46 ∨ cR w (w 31 14 + 1) = 33 ∨ cR w (w 31 14 + 1) = 63) ∧ z35 = kdC (cR w (w 31 14 + 1)) ∧ w35 31 14 = w 31 14 + 1 + 1 := by
        rcases hc35 with h | h
        · exact h.2
        · omega
      have e14 : w35 31 14 = w 31 14 + 2 := by omega
      refine wm_iload_n hC 2 (pc := 43) dX9_readState_43 rfl rfl ?_
      refine wm_if_eq hC 54 (pc := 44) dX9_readState_44 (by decide) (by omega) (fun h44 => ?_) (fun h44 => ?_)
      · have q46 : cR w (w 31 14 + 1) = 46 := by
          have e := q35.2.1
          unfold kdC at e
          (repeat' split at e) <;> omega
        exact j54 w35 t 0 z35 f35 hTi35 h15b h24b (fun k k0 k1 => absurd k1 (by omega)) (by omega) (by omega) (by rw [show w 31 14 + 2 + 2 * ((0 : Nat) : Int) = w 31 14 + 2 by omega]; exact scan_dot q18.1 q46) ht8 htc q35.2.1 hkb
      · have q33 : cR w (w 31 14 + 1) = 33 ∨ cR w (w 31 14 + 1) = 63 := by
          have e := q35.2.1
          unfold kdC at e
          (repeat' split at e) <;> omega
        refine wm_aload_n hC 0 (pc := 47) dX9_readState_47 rfl rfl ?_
        refine wm_iV hC cv_X9_243 kc_X9_takesArrows rfl rfl (s_X9_takesArrows hTi35 (by omega) h24b) rfl (by decide) rfl (Nat.le_of_ble_eq_true rfl) (pc := 48) dX9_readState_48 (fun z48 w48 hw48 => ?_)
        obtain ⟨b48, m, hz48, hA48, hTi48, hc48⟩ := hw48
        rw [hz48]
        have c35 : cR w35 = cR w := f35.c
        rw [c35, e14] at hc48
        have hK48 := hA48.2.2
        rw [c35, e14] at hK48
        have f48 : FrS w w48 := f35.trans hA48.1.s
        have r48 := hTi48.2.2
        have t48 : w48 31 4 = w 31 4 := f48.2 4 (Or.inl (by decide))
        have hA2 : ∀ k : Int, 0 ≤ k → k < m → (97 ≤ cR w (w 31 14 + 2 + 2 * k) ∧ cR w (w 31 14 + 2 + 2 * k) ≤ 102) ∧ (48 ≤ cR w (w 31 14 + 2 + 2 * k + 1) ∧ cR w (w 31 14 + 2 + 2 * k + 1) ≤ 55) := fun k k0 k1 => by
          have := hK48 k k0 k1
          omega
        have h15c : w48 31 15 = w 31 14 := (hA48.1.2 15 (by decide) (by decide) (by decide)).trans h15b
        refine wm_ifb_eq hC 65 (pc := 51) dX9_readState_51 (by decide) (fun h51 => ?_) (fun h51 => ?_)
        · have q48 := hc48.resolve_left (fun h => by rw [h51] at h; cases h.1)
          have hlt2 := cR_lt (w := w) (x := w 31 14 + 2 + 2 * (m : Int)) (by omega)
          exact j65 w48 (t : Int) z35 _ f48 hTi48 h15c (scan_half q18.1 q33 (by omega) hA2 q48.2.2.1 q48.2.2.2) q48.2.1 (by omega)
        · have q48 := hc48.resolve_right (fun h => by rw [h51] at h; cases h.1)
          exact j54 w48 t m z35 f48 hTi48 h15c hA48.2.1 hK48 (by omega) q48.2.1 (scan_end q18.1 q33 (by omega) hA2 q48.2.2) ht8 htc q35.2.1 ⟨(hA48.1.2 19 (by decide) (by decide) (by decide)).trans hkb.1, (hA48.1.2 20 (by decide) (by decide) (by decide)).trans hkb.2.1, (hA48.1.1 43 (by decide) (by decide) (by decide)).trans hkb.2.2⟩
  · have q18 : ¬ (48 ≤ cR w (w 31 14) ∧ cR w (w 31 14) ≤ 55) ∧ w18 31 14 = w 31 14 := by
      rcases hT18.2 with h | h
      · rw [h21] at h; cases h.1
      · rw [cv, v14] at h; exact ⟨h.2.1, by omega⟩
    refine wm_aload_n hC 0 (pc := 24) dX9_readState_24 rfl rfl ?_
    refine wm_iV hC cv_X9_237 kc_X9_breaksOff rfl rfl (s_X9_breaksOff) rfl (by decide) rfl (Nat.le_of_ble_eq_true rfl) (pc := 25) dX9_readState_25 (fun z25 w25 hw25 => ?_)
    obtain ⟨hz25, hw25b⟩ := hw25
    rw [hz25, hw25b]
    refine wm_iretI hC (pc := 28) dX9_readState_28 ?_
    exact rdR_6 (fv.trans hT18.fr.s) (hT18.ti (by decide) hTv) ((hT18.1.2 15 (by decide) (by decide)).trans v15) (scan_d0 q18.1) q18.2 (Int.le_refl _)
