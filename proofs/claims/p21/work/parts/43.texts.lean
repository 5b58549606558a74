/-! TEXTS: their faults, by place, reason and cause -/
def fofF (tx : List Int) : Int := if faultF (parA tx) 0 < 0 then faultF (parA tx) 0 else 10000 * faultF (parA tx) 0 + 100 * faultF (parA tx) 1 + (if faultF (parA tx) 2 = -1000004 then 99 else faultF (parA tx) 2)
def fokT (tx : List Int) : Prop := (-1 ≤ (parA tx).2.2.1 ∧ (parA tx).2.2.1 ≤ 80) ∧ (0 ≤ (parA tx).2.2.2.1 ∧ (parA tx).2.2.2.1 ≤ 3) ∧ (-1 ≤ (parA tx).2.2.2.2 ∧ (parA tx).2.2.2.2 ≤ 80) ∧ ((parA tx).2.2.2.1 = 0 ∨ 0 ≤ (parA tx).2.2.1)
def fokB (tx : List Int) : Bool := decide ((-1 ≤ (parA tx).2.2.1 ∧ (parA tx).2.2.1 ≤ 80) ∧ (0 ≤ (parA tx).2.2.2.1 ∧ (parA tx).2.2.2.1 ≤ 3) ∧ (-1 ≤ (parA tx).2.2.2.2 ∧ (parA tx).2.2.2.2 ≤ 80) ∧ ((parA tx).2.2.2.1 = 0 ∨ 0 ≤ (parA tx).2.2.1))
theorem fokB_at {tx : List Int} (h : fokB tx = true) : fokT tx := by
  unfold fokB at h
  have h2 := of_decide_eq_true h
  exact h2
theorem fok_rng {tx : List Int} (h : fokT tx) (c : Int) : -1000004 ≤ faultF (parA tx) c ∧ faultF (parA tx) c ≤ 80 := by
  obtain ⟨h1, h2, h3, -⟩ := h
  unfold faultF
  (repeat' split) <;> omega
theorem fok_0 {tx : List Int} (h : (parA tx).2.2.2.1 = 0) (c : Int) : faultF (parA tx) c = -1000004 := by unfold faultF; rw [if_pos h]
theorem fok_neg {tx : List Int} (h : fokT tx) (hn : faultF (parA tx) 0 < 0) : (parA tx).2.2.2.1 = 0 := by
  obtain ⟨-, -, -, h4⟩ := h
  refine Classical.byContradiction fun q => ?_
  unfold faultF at hn
  rw [if_neg q, if_pos rfl] at hn
  omega
set_option maxRecDepth 100000 in
set_option maxHeartbeats 4000000 in
theorem mf_faultOf {l : Launch} {G : mG} {a b : Int} (ha : okW a = true) (hb : okW b = true) (hk : fokT (bys a 8 ++ bys b 8)) : MF l G 7 31 1915 yL_faultOf cL_faultOf 6 (some .int) [mvJ a, mvJ b] (fun z => z = fofF (bys a 8 ++ bys b 8)) := by
  refine MF.intro (by decide) rfl (by decide) [some (mvJ a), none, some (mvJ b), none, none, none] (Nat.le_of_ble_eq_true rfl) rfl (fun _ => rfl) dL_faultOf_0 dL_faultOf_3 dL_faultOf_4 (fun G K hC => ?_)
  have hO := mw0_ob
  have fr := fok_rng hk
  generalize mw0 = w at hO ⊢
  refine wm_astore hC  (pc := 7) dL_faultOf_7  (by decide) rfl ?_
  refine wm_aload hC  (pc := 9) dL_faultOf_9 rfl ?_
  refine wm_lload_n hC 0 (pc := 11) dL_faultOf_11 rfl rfl ?_
  refine wm_iS hC cs_L_85 kc_L_puts (t_puts hO ha (by decide)) rfl (by decide) rfl (Nat.le_of_ble_eq_true rfl) (pc := 12) dL_faultOf_12 (fun z12 w12 hw12 => ?_)
  obtain ⟨rfl, hO⟩ := hw12
  rw [List.nil_append] at hO
  refine wm_if_eq hC 27 (pc := 15) dL_faultOf_15 (by decide) (by omega) (fun h => absurd h (by decide)) (fun _ => ?_)
  refine wm_aload hC  (pc := 18) dL_faultOf_18 rfl ?_
  refine wm_lload_n hC 2 (pc := 20) dL_faultOf_20 rfl rfl ?_
  refine wm_iS hC cs_L_85 kc_L_puts (t_puts hO hb (by have := bys_len a 8; omega)) rfl (by decide) rfl (Nat.le_of_ble_eq_true rfl) (pc := 21) dL_faultOf_21 (fun z21 w21 hw21 => ?_)
  obtain ⟨rfl, hO⟩ := hw21
  refine wm_if_ne hC 30 (pc := 24) dL_faultOf_24 (by decide) (by omega) (fun _ => ?_) (fun h => absurd h (by decide))
  refine wm_aload hC  (pc := 30) dL_faultOf_30 rfl ?_
  refine wm_iconst hC (pc := 32) dL_faultOf_32 ?_
  refine wm_iV hC cv_L_71 kc_X8_fault rfl rfl (t_faultV hO (by decide)) rfl (by decide) rfl (Nat.le_of_ble_eq_true rfl) (pc := 33) dL_faultOf_33 (fun z33 w33 hw33 => ?_)
  obtain ⟨e33, hO⟩ := hw33
  refine wm_istore hC  (pc := 36) dL_faultOf_36  (by decide) rfl ?_
  refine wm_iload hC  (pc := 38) dL_faultOf_38 rfl ?_
  refine wm_if_ge hC 73 (pc := 40) dL_faultOf_40 (by decide) (by have := fr 0; omega) (fun h40 => ?_) (fun h40 => ?_)
  · have hr : ¬ (parA (bys a 8 ++ bys b 8)).2.2.2.1 = 0 := fun q => by have := fok_0 q 0; omega
    refine wm_aload hC  (pc := 73) dL_faultOf_73 rfl ?_
    refine wm_iconst hC (pc := 75) dL_faultOf_75 ?_
    refine wm_iV hC cv_L_49 kc_X8_read rfl rfl (t_readU hO (by decide) hr) rfl (by decide) rfl (Nat.le_of_ble_eq_true rfl) (pc := 76) dL_faultOf_76 (fun z76 w76 hw76 => ?_)
    obtain ⟨rfl, hO⟩ := hw76
    refine wm_ldc hC (-1000002) kI_L_89 (pc := 79) dL_faultOf_79 ?_
    refine wm_icmp_ne hC 93 (pc := 81) dL_faultOf_81 (by decide) (by omega) (by omega) (fun h => absurd h (by decide)) (fun _ => ?_)
    refine wm_aload hC  (pc := 84) dL_faultOf_84 rfl ?_
    refine wm_iconst hC (pc := 86) dL_faultOf_86 ?_
    refine wm_iV hC cv_L_22 kc_X8_count rfl rfl (t_count hO (by omega)) rfl (by decide) rfl (Nat.le_of_ble_eq_true rfl) (pc := 87) dL_faultOf_87 (fun z87 w87 hw87 => ?_)
    obtain ⟨e87, hO⟩ := hw87
    have e87 : z87 = 0 := e87
    subst e87
    refine wm_if_eq hC 96 (pc := 90) dL_faultOf_90 (by decide) (by omega) (fun _ => ?_) (fun h => absurd h (by decide))
    refine wm_sipush hC (pc := 96) dL_faultOf_96 (by decide) ?_
    refine wm_iload hC  (pc := 99) dL_faultOf_99 rfl ?_
    refine wm_imul hC (pc := 101) dL_faultOf_101 ?_
    refine wm_bipush hC (pc := 102) dL_faultOf_102 (by decide) ?_
    refine wm_aload hC  (pc := 104) dL_faultOf_104 rfl ?_
    refine wm_iconst hC (pc := 106) dL_faultOf_106 ?_
    refine wm_iV hC cv_L_71 kc_X8_fault rfl rfl (t_faultV hO (by decide)) rfl (by decide) rfl (Nat.le_of_ble_eq_true rfl) (pc := 107) dL_faultOf_107 (fun z107 w107 hw107 => ?_)
    obtain ⟨e107, hO⟩ := hw107
    refine wm_imul hC (pc := 110) dL_faultOf_110 ?_
    refine wm_iadd hC (pc := 111) dL_faultOf_111 ?_
    refine wm_aload hC  (pc := 112) dL_faultOf_112 rfl ?_
    refine wm_iconst hC (pc := 114) dL_faultOf_114 ?_
    refine wm_iV hC cv_L_71 kc_X8_fault rfl rfl (t_faultV hO (by decide)) rfl (by decide) rfl (Nat.le_of_ble_eq_true rfl) (pc := 115) dL_faultOf_115 (fun z115 w115 hw115 => ?_)
    obtain ⟨e115, hO⟩ := hw115
    refine wm_ldc hC (-1000004) kI_L_55 (pc := 118) dL_faultOf_118 ?_
    refine wm_icmp_ne hC 128 (pc := 120) dL_faultOf_120 (by decide) (by have := fr 2; omega) (by omega) (fun h120 => ?_) (fun h120 => ?_)
    · refine wm_aload hC  (pc := 128) dL_faultOf_128 rfl ?_
      refine wm_iconst hC (pc := 130) dL_faultOf_130 ?_
      refine wm_iV hC cv_L_71 kc_X8_fault rfl rfl (t_faultV hO (by decide)) rfl (by decide) rfl (Nat.le_of_ble_eq_true rfl) (pc := 131) dL_faultOf_131 (fun z131 w131 hw131 => ?_)
      obtain ⟨e131, hO⟩ := hw131
      refine wm_iadd hC (pc := 134) dL_faultOf_134 ?_
      refine wm_iretI hC (pc := 135) dL_faultOf_135 ?_
      show _ = fofF _
      unfold fofF
      rw [← e33, if_neg (by omega), ← e107]
      first | (rw [← e115, if_pos h120]) | (rw [← e115, if_neg h120, show z131 = z115 from e131.trans e115.symm])
    · refine wm_bipush hC (pc := 123) dL_faultOf_123 (by decide) ?_
      refine wm_goto hC 134 (pc := 125) dL_faultOf_125 (by decide) ?_
      refine wm_iadd hC (pc := 134) dL_faultOf_134 ?_
      refine wm_iretI hC (pc := 135) dL_faultOf_135 ?_
      show _ = fofF _
      unfold fofF
      rw [← e33, if_neg (by omega), ← e107]
      first | (rw [← e115, if_pos h120]) | (rw [← e115, if_neg h120, show z131 = z115 from e131.trans e115.symm])
  · have hr := fok_neg hk (by omega)
    refine wm_aload hC  (pc := 43) dL_faultOf_43 rfl ?_
    refine wm_iconst hC (pc := 45) dL_faultOf_45 ?_
    refine wm_iV hC cv_L_71 kc_X8_fault rfl rfl (t_faultV hO (by decide)) rfl (by decide) rfl (Nat.le_of_ble_eq_true rfl) (pc := 46) dL_faultOf_46 (fun z46 w46 hw46 => ?_)
    obtain ⟨e46, hO⟩ := hw46
    refine wm_ldc hC (-1000004) kI_L_55 (pc := 49) dL_faultOf_49 ?_
    refine wm_icmp_ne hC 70 (pc := 51) dL_faultOf_51 (by decide) (by have := fr 1; omega) (by omega) (fun h51 => ?_) (fun h51 => ?_)
    · exact absurd (e46.trans (fok_0 hr 1)) h51
    · refine wm_aload hC  (pc := 54) dL_faultOf_54 rfl ?_
      refine wm_iconst hC (pc := 56) dL_faultOf_56 ?_
      refine wm_iV hC cv_L_71 kc_X8_fault rfl rfl (t_faultV hO (by decide)) rfl (by decide) rfl (Nat.le_of_ble_eq_true rfl) (pc := 57) dL_faultOf_57 (fun z57 w57 hw57 => ?_)
      obtain ⟨e57, hO⟩ := hw57
      refine wm_ldc hC (-1000004) kI_L_55 (pc := 60) dL_faultOf_60 ?_
      refine wm_icmp_ne hC 70 (pc := 62) dL_faultOf_62 (by decide) (by have := fr 2; omega) (by omega) (fun h62 => ?_) (fun h62 => ?_)
      · exact absurd (e57.trans (fok_0 hr 2)) h62
      · refine wm_iload hC  (pc := 65) dL_faultOf_65 rfl ?_
        refine wm_goto hC 72 (pc := 67) dL_faultOf_67 (by decide) ?_
        refine wm_iretI hC (pc := 72) dL_faultOf_72 ?_
        show z33 = fofF _
        unfold fofF
        rw [← e33, if_pos h40]
theorem fx0_a : okW (0) = true := by decide +kernel
theorem fx0_b : okW (0) = true := by decide +kernel
theorem fx0_k : fokB (bys (0) 8 ++ bys (0) 8) = true := by decide +kernel
theorem fx0_v : fofF (bys (0) 8 ++ bys (0) 8) = (-1000004) := by decide +kernel
theorem fx1_a : okW (14395) = true := by decide +kernel
theorem fx1_b : okW (0) = true := by decide +kernel
theorem fx1_k : fokB (bys (14395) 8 ++ bys (0) 8) = true := by decide +kernel
theorem fx1_v : fofF (bys (14395) 8 ++ bys (0) 8) = 100 := by decide +kernel
theorem fx2_a : okW (48) = true := by decide +kernel
theorem fx2_b : okW (0) = true := by decide +kernel
theorem fx2_k : fokB (bys (48) 8 ++ bys (0) 8) = true := by decide +kernel
theorem fx2_v : fofF (bys (48) 8 ++ bys (0) 8) = 101 := by decide +kernel
theorem fx3_a : okW (12334) = true := by decide +kernel
theorem fx3_b : okW (0) = true := by decide +kernel
theorem fx3_k : fokB (bys (12334) 8 ++ bys (0) 8) = true := by decide +kernel
theorem fx3_v : fofF (bys (12334) 8 ++ bys (0) 8) = 102 := by decide +kernel
theorem fx4_a : okW (3154273) = true := by decide +kernel
theorem fx4_b : okW (0) = true := by decide +kernel
theorem fx4_k : fokB (bys (3154273) 8 ++ bys (0) 8) = true := by decide +kernel
theorem fx4_v : fofF (bys (3154273) 8 ++ bys (0) 8) = 103 := by decide +kernel
theorem fx5_a : okW (206718841147) = true := by decide +kernel
theorem fx5_b : okW (0) = true := by decide +kernel
theorem fx5_k : fokB (bys (206718841147) 8 ++ bys (0) 8) = true := by decide +kernel
theorem fx5_v : fofF (bys (206718841147) 8 ++ bys (0) 8) = 102 := by decide +kernel
theorem fx6_a : okW (207221766203) = true := by decide +kernel
theorem fx6_b : okW (0) = true := by decide +kernel
theorem fx6_k : fokB (bys (207221766203) 8 ++ bys (0) 8) = true := by decide +kernel
theorem fx6_v : fofF (bys (207221766203) 8 ++ bys (0) 8) = 103 := by decide +kernel
theorem fx7_a : okW (206936551739) = true := by decide +kernel
theorem fx7_b : okW (0) = true := by decide +kernel
theorem fx7_k : fokB (bys (206936551739) 8 ++ bys (0) 8) = true := by decide +kernel
theorem fx7_v : fofF (bys (206936551739) 8 ++ bys (0) 8) = 102 := by decide +kernel
theorem fx8_a : okW (3154235) = true := by decide +kernel
theorem fx8_b : okW (0) = true := by decide +kernel
theorem fx8_k : fokB (bys (3154235) 8 ++ bys (0) 8) = true := by decide +kernel
theorem fx8_v : fofF (bys (3154235) 8 ++ bys (0) 8) = (-1000004) := by decide +kernel
theorem fx9_a : okW (52975119642171) = true := by decide +kernel
theorem fx9_b : okW (0) = true := by decide +kernel
theorem fx9_k : fokB (bys (52975119642171) 8 ++ bys (0) 8) = true := by decide +kernel
theorem fx9_v : fofF (bys (52975119642171) 8 ++ bys (0) 8) = 30299 := by decide +kernel
theorem fx10_a : okW (3471777444948685154) = true := by decide +kernel
theorem fx10_b : okW (55397350192187) = true := by decide +kernel
theorem fx10_k : fokB (bys (3471777444948685154) 8 ++ bys (55397350192187) 8) = true := by decide +kernel
theorem fx10_v : fofF (bys (3471777444948685154) 8 ++ bys (55397350192187) 8) = 30301 := by decide +kernel
theorem fx11_a : okW (3471777440653717857) = true := by decide +kernel
theorem fx11_b : okW (12859) = true := by decide +kernel
theorem fx11_k : fokB (bys (3471777440653717857) 8 ++ bys (12859) 8) = true := by decide +kernel
theorem fx11_v : fofF (bys (3471777440653717857) 8 ++ bys (12859) 8) = 30299 := by decide +kernel
theorem fx12_a : okW (56347390851890) = true := by decide +kernel
theorem fx12_b : okW (0) = true := by decide +kernel
theorem fx12_k : fokB (bys (56347390851890) 8 ++ bys (0) 8) = true := by decide +kernel
theorem fx12_v : fofF (bys (56347390851890) 8 ++ bys (0) 8) = 50101 := by decide +kernel
theorem fx13_a : okW (3692782606868296238) = true := by decide +kernel
theorem fx13_b : okW (59) = true := by decide +kernel
theorem fx13_k : fokB (bys (3692782606868296238) 8 ++ bys (59) 8) = true := by decide +kernel
theorem fx13_v : fofF (bys (3692782606868296238) 8 ++ bys (59) 8) = 50100 := by decide +kernel
theorem fx14_a : okW (52919922680114) = true := by decide +kernel
theorem fx14_b : okW (0) = true := by decide +kernel
theorem fx14_k : fokB (bys (52919922680114) 8 ++ bys (0) 8) = true := by decide +kernel
theorem fx14_v : fofF (bys (52919922680114) 8 ++ bys (0) 8) = 106 := by decide +kernel
set_option maxRecDepth 100000 in
set_option maxHeartbeats 4000000 in
theorem mf_texts {l : Launch} {G : mG} : MF l G 8 465 28725 yL_texts cL_texts 0 (some .boolean) [] (fun z => z = 1) := by
  intro sz
  refine Met.ofW (cc := cL_texts) (maxL := 0) (ret := some .boolean) (by decide) rfl ?_
  intro p e s m args below meth c s₁ B hml hv
  obtain ⟨rfl, hsz, hK, hN⟩ := hv
  subst hsz
  have hts := atoms_spec (ws := Cond.code yL_texts cL_texts 0 (some .boolean) :: mgood) B.pre
  have ht : ∀ w ∈ mgood, w.before (([] : List mV).map (mtr G)).toArray s = true := fun w hw => hts w (List.mem_cons_of_mem _ hw)
  have hf : s.vm.findClass RL = some m.cls := findClass_of_methodNamed B.named
  have hx := B.exec
  have hb := B.bytes
  have hr := B.returns
  have hlocks := B.notSynchronized
  have hl := lv_entry (([] : List mV).map (mtr G)) (n := 0) (Nat.le_of_ble_eq_true rfl)
  rw [lg_entry_eq]
  have hls := hl.1
  generalize (lg_sl (([] : List mV).map (mtr G)) ++ List.replicate (0 - (lg_sl (([] : List mV).map (mtr G))).length) Slot.unset).toArray = ls at hls ⊢
  have hS : va_S (fun q : Nat => s.heap.size ≤ q) s.heap s.heap [] := va_S.rf
  refine lv_lconst (v := mJ (0)) hx hb dL_texts_0 rfl ?_
  refine lv_lconst (v := mJ (0)) hx hb dL_texts_1 rfl ?_
  refine mf_call (G := G) (nL := 0) (as := [mvJ (0), mvJ (0)]) (rest := []) hx hb hml hf ht hN hK hS hls (mf_faultOf fx0_a fx0_b (fokB_at fx0_k)) cs_L_90 kc_L_faultOf rfl ⟨Nat.le_of_ble_eq_true rfl, Nat.le_of_ble_eq_true rfl⟩ (Nat.le_of_ble_eq_true rfl) (Nat.le_of_ble_eq_true rfl) rfl (Nat.le_of_ble_eq_true rfl) dL_texts_2 (fun z0 H locs hz hS => ?_)
  rw [fx0_v] at hz; subst hz
  refine lv_ldc (v := mI (-1000004)) hx hb hf (ht _ kI_L_55) dL_texts_5 ?_
  refine lv_icmp_ne (tgt := 106) hx hb dL_texts_7 (by decide) (fun q => absurd rfl q) (fun _ => ?_)
  refine lv_ldc2 (v := mJ (14395)) hx hb hf (ht _ kJ_L_94) dL_texts_10 ?_
  refine lv_lconst (v := mJ (0)) hx hb dL_texts_13 rfl ?_
  refine mf_call (G := G) (nL := 0) (as := [mvJ (14395), mvJ (0)]) (rest := []) hx hb hml hf ht hN hK hS hls (mf_faultOf fx1_a fx1_b (fokB_at fx1_k)) cs_L_90 kc_L_faultOf rfl ⟨Nat.le_of_ble_eq_true rfl, Nat.le_of_ble_eq_true rfl⟩ (Nat.le_of_ble_eq_true rfl) (Nat.le_of_ble_eq_true rfl) rfl (Nat.le_of_ble_eq_true rfl) dL_texts_14 (fun z1 H locs hz hS => ?_)
  rw [fx1_v] at hz; subst hz
  refine lv_bipush (v := mI (100)) hx hb dL_texts_17 (by decide) ?_
  refine lv_icmp_ne (tgt := 106) hx hb dL_texts_19 (by decide) (fun q => absurd rfl q) (fun _ => ?_)
  refine lv_ldc2 (v := mJ (48)) hx hb hf (ht _ kJ_L_96) dL_texts_22 ?_
  refine lv_lconst (v := mJ (0)) hx hb dL_texts_25 rfl ?_
  refine mf_call (G := G) (nL := 0) (as := [mvJ (48), mvJ (0)]) (rest := []) hx hb hml hf ht hN hK hS hls (mf_faultOf fx2_a fx2_b (fokB_at fx2_k)) cs_L_90 kc_L_faultOf rfl ⟨Nat.le_of_ble_eq_true rfl, Nat.le_of_ble_eq_true rfl⟩ (Nat.le_of_ble_eq_true rfl) (Nat.le_of_ble_eq_true rfl) rfl (Nat.le_of_ble_eq_true rfl) dL_texts_26 (fun z2 H locs hz hS => ?_)
  rw [fx2_v] at hz; subst hz
  refine lv_bipush (v := mI (101)) hx hb dL_texts_29 (by decide) ?_
  refine lv_icmp_ne (tgt := 106) hx hb dL_texts_31 (by decide) (fun q => absurd rfl q) (fun _ => ?_)
  refine lv_ldc2 (v := mJ (12334)) hx hb hf (ht _ kJ_L_98) dL_texts_34 ?_
  refine lv_lconst (v := mJ (0)) hx hb dL_texts_37 rfl ?_
  refine mf_call (G := G) (nL := 0) (as := [mvJ (12334), mvJ (0)]) (rest := []) hx hb hml hf ht hN hK hS hls (mf_faultOf fx3_a fx3_b (fokB_at fx3_k)) cs_L_90 kc_L_faultOf rfl ⟨Nat.le_of_ble_eq_true rfl, Nat.le_of_ble_eq_true rfl⟩ (Nat.le_of_ble_eq_true rfl) (Nat.le_of_ble_eq_true rfl) rfl (Nat.le_of_ble_eq_true rfl) dL_texts_38 (fun z3 H locs hz hS => ?_)
  rw [fx3_v] at hz; subst hz
  refine lv_bipush (v := mI (102)) hx hb dL_texts_41 (by decide) ?_
  refine lv_icmp_ne (tgt := 106) hx hb dL_texts_43 (by decide) (fun q => absurd rfl q) (fun _ => ?_)
  refine lv_ldc2 (v := mJ (3154273)) hx hb hf (ht _ kJ_L_100) dL_texts_46 ?_
  refine lv_lconst (v := mJ (0)) hx hb dL_texts_49 rfl ?_
  refine mf_call (G := G) (nL := 0) (as := [mvJ (3154273), mvJ (0)]) (rest := []) hx hb hml hf ht hN hK hS hls (mf_faultOf fx4_a fx4_b (fokB_at fx4_k)) cs_L_90 kc_L_faultOf rfl ⟨Nat.le_of_ble_eq_true rfl, Nat.le_of_ble_eq_true rfl⟩ (Nat.le_of_ble_eq_true rfl) (Nat.le_of_ble_eq_true rfl) rfl (Nat.le_of_ble_eq_true rfl) dL_texts_50 (fun z4 H locs hz hS => ?_)
  rw [fx4_v] at hz; subst hz
  refine lv_bipush (v := mI (103)) hx hb dL_texts_53 (by decide) ?_
  refine lv_icmp_ne (tgt := 106) hx hb dL_texts_55 (by decide) (fun q => absurd rfl q) (fun _ => ?_)
  refine lv_ldc2 (v := mJ (206718841147)) hx hb hf (ht _ kJ_L_102) dL_texts_58 ?_
  refine lv_lconst (v := mJ (0)) hx hb dL_texts_61 rfl ?_
  refine mf_call (G := G) (nL := 0) (as := [mvJ (206718841147), mvJ (0)]) (rest := []) hx hb hml hf ht hN hK hS hls (mf_faultOf fx5_a fx5_b (fokB_at fx5_k)) cs_L_90 kc_L_faultOf rfl ⟨Nat.le_of_ble_eq_true rfl, Nat.le_of_ble_eq_true rfl⟩ (Nat.le_of_ble_eq_true rfl) (Nat.le_of_ble_eq_true rfl) rfl (Nat.le_of_ble_eq_true rfl) dL_texts_62 (fun z5 H locs hz hS => ?_)
  rw [fx5_v] at hz; subst hz
  refine lv_bipush (v := mI (102)) hx hb dL_texts_65 (by decide) ?_
  refine lv_icmp_ne (tgt := 106) hx hb dL_texts_67 (by decide) (fun q => absurd rfl q) (fun _ => ?_)
  refine lv_ldc2 (v := mJ (207221766203)) hx hb hf (ht _ kJ_L_104) dL_texts_70 ?_
  refine lv_lconst (v := mJ (0)) hx hb dL_texts_73 rfl ?_
  refine mf_call (G := G) (nL := 0) (as := [mvJ (207221766203), mvJ (0)]) (rest := []) hx hb hml hf ht hN hK hS hls (mf_faultOf fx6_a fx6_b (fokB_at fx6_k)) cs_L_90 kc_L_faultOf rfl ⟨Nat.le_of_ble_eq_true rfl, Nat.le_of_ble_eq_true rfl⟩ (Nat.le_of_ble_eq_true rfl) (Nat.le_of_ble_eq_true rfl) rfl (Nat.le_of_ble_eq_true rfl) dL_texts_74 (fun z6 H locs hz hS => ?_)
  rw [fx6_v] at hz; subst hz
  refine lv_bipush (v := mI (103)) hx hb dL_texts_77 (by decide) ?_
  refine lv_icmp_ne (tgt := 106) hx hb dL_texts_79 (by decide) (fun q => absurd rfl q) (fun _ => ?_)
  refine lv_ldc2 (v := mJ (206936551739)) hx hb hf (ht _ kJ_L_106) dL_texts_82 ?_
  refine lv_lconst (v := mJ (0)) hx hb dL_texts_85 rfl ?_
  refine mf_call (G := G) (nL := 0) (as := [mvJ (206936551739), mvJ (0)]) (rest := []) hx hb hml hf ht hN hK hS hls (mf_faultOf fx7_a fx7_b (fokB_at fx7_k)) cs_L_90 kc_L_faultOf rfl ⟨Nat.le_of_ble_eq_true rfl, Nat.le_of_ble_eq_true rfl⟩ (Nat.le_of_ble_eq_true rfl) (Nat.le_of_ble_eq_true rfl) rfl (Nat.le_of_ble_eq_true rfl) dL_texts_86 (fun z7 H locs hz hS => ?_)
  rw [fx7_v] at hz; subst hz
  refine lv_bipush (v := mI (102)) hx hb dL_texts_89 (by decide) ?_
  refine lv_icmp_ne (tgt := 106) hx hb dL_texts_91 (by decide) (fun q => absurd rfl q) (fun _ => ?_)
  refine lv_ldc2 (v := mJ (3154235)) hx hb hf (ht _ kJ_L_108) dL_texts_94 ?_
  refine lv_lconst (v := mJ (0)) hx hb dL_texts_97 rfl ?_
  refine mf_call (G := G) (nL := 0) (as := [mvJ (3154235), mvJ (0)]) (rest := []) hx hb hml hf ht hN hK hS hls (mf_faultOf fx8_a fx8_b (fokB_at fx8_k)) cs_L_90 kc_L_faultOf rfl ⟨Nat.le_of_ble_eq_true rfl, Nat.le_of_ble_eq_true rfl⟩ (Nat.le_of_ble_eq_true rfl) (Nat.le_of_ble_eq_true rfl) rfl (Nat.le_of_ble_eq_true rfl) dL_texts_98 (fun z8 H locs hz hS => ?_)
  rw [fx8_v] at hz; subst hz
  refine lv_ldc (v := mI (-1000004)) hx hb hf (ht _ kI_L_55) dL_texts_101 ?_
  refine lv_icmp_eq (tgt := 108) hx hb dL_texts_103 (by decide) (fun _ => ?_) (fun q => absurd rfl q)
  refine lv_ldc2 (v := mJ (52975119642171)) hx hb hf (ht _ kJ_L_110) dL_texts_108 ?_
  refine lv_lconst (v := mJ (0)) hx hb dL_texts_111 rfl ?_
  refine mf_call (G := G) (nL := 0) (as := [mvJ (52975119642171), mvJ (0)]) (rest := []) hx hb hml hf ht hN hK hS hls (mf_faultOf fx9_a fx9_b (fokB_at fx9_k)) cs_L_90 kc_L_faultOf rfl ⟨Nat.le_of_ble_eq_true rfl, Nat.le_of_ble_eq_true rfl⟩ (Nat.le_of_ble_eq_true rfl) (Nat.le_of_ble_eq_true rfl) rfl (Nat.le_of_ble_eq_true rfl) dL_texts_112 (fun z9 H locs hz hS => ?_)
  rw [fx9_v] at hz; subst hz
  refine lv_sipush (v := mI (30299)) hx hb dL_texts_115 (by decide) ?_
  refine lv_icmp_ne (tgt := 193) hx hb dL_texts_118 (by decide) (fun q => absurd rfl q) (fun _ => ?_)
  refine lv_ldc2 (v := mJ (3471777444948685154)) hx hb hf (ht _ kJ_L_112) dL_texts_121 ?_
  refine lv_ldc2 (v := mJ (55397350192187)) hx hb hf (ht _ kJ_L_114) dL_texts_124 ?_
  refine mf_call (G := G) (nL := 0) (as := [mvJ (3471777444948685154), mvJ (55397350192187)]) (rest := []) hx hb hml hf ht hN hK hS hls (mf_faultOf fx10_a fx10_b (fokB_at fx10_k)) cs_L_90 kc_L_faultOf rfl ⟨Nat.le_of_ble_eq_true rfl, Nat.le_of_ble_eq_true rfl⟩ (Nat.le_of_ble_eq_true rfl) (Nat.le_of_ble_eq_true rfl) rfl (Nat.le_of_ble_eq_true rfl) dL_texts_127 (fun z10 H locs hz hS => ?_)
  rw [fx10_v] at hz; subst hz
  refine lv_sipush (v := mI (30301)) hx hb dL_texts_130 (by decide) ?_
  refine lv_icmp_ne (tgt := 193) hx hb dL_texts_133 (by decide) (fun q => absurd rfl q) (fun _ => ?_)
  refine lv_ldc2 (v := mJ (3471777440653717857)) hx hb hf (ht _ kJ_L_116) dL_texts_136 ?_
  refine lv_ldc2 (v := mJ (12859)) hx hb hf (ht _ kJ_L_118) dL_texts_139 ?_
  refine mf_call (G := G) (nL := 0) (as := [mvJ (3471777440653717857), mvJ (12859)]) (rest := []) hx hb hml hf ht hN hK hS hls (mf_faultOf fx11_a fx11_b (fokB_at fx11_k)) cs_L_90 kc_L_faultOf rfl ⟨Nat.le_of_ble_eq_true rfl, Nat.le_of_ble_eq_true rfl⟩ (Nat.le_of_ble_eq_true rfl) (Nat.le_of_ble_eq_true rfl) rfl (Nat.le_of_ble_eq_true rfl) dL_texts_142 (fun z11 H locs hz hS => ?_)
  rw [fx11_v] at hz; subst hz
  refine lv_sipush (v := mI (30299)) hx hb dL_texts_145 (by decide) ?_
  refine lv_icmp_ne (tgt := 193) hx hb dL_texts_148 (by decide) (fun q => absurd rfl q) (fun _ => ?_)
  refine lv_ldc2 (v := mJ (56347390851890)) hx hb hf (ht _ kJ_L_120) dL_texts_151 ?_
  refine lv_lconst (v := mJ (0)) hx hb dL_texts_154 rfl ?_
  refine mf_call (G := G) (nL := 0) (as := [mvJ (56347390851890), mvJ (0)]) (rest := []) hx hb hml hf ht hN hK hS hls (mf_faultOf fx12_a fx12_b (fokB_at fx12_k)) cs_L_90 kc_L_faultOf rfl ⟨Nat.le_of_ble_eq_true rfl, Nat.le_of_ble_eq_true rfl⟩ (Nat.le_of_ble_eq_true rfl) (Nat.le_of_ble_eq_true rfl) rfl (Nat.le_of_ble_eq_true rfl) dL_texts_155 (fun z12 H locs hz hS => ?_)
  rw [fx12_v] at hz; subst hz
  refine lv_ldc (v := mI (50101)) hx hb hf (ht _ kI_L_122) dL_texts_158 ?_
  refine lv_icmp_ne (tgt := 193) hx hb dL_texts_160 (by decide) (fun q => absurd rfl q) (fun _ => ?_)
  refine lv_ldc2 (v := mJ (3692782606868296238)) hx hb hf (ht _ kJ_L_123) dL_texts_163 ?_
  refine lv_ldc2 (v := mJ (59)) hx hb hf (ht _ kJ_L_125) dL_texts_166 ?_
  refine mf_call (G := G) (nL := 0) (as := [mvJ (3692782606868296238), mvJ (59)]) (rest := []) hx hb hml hf ht hN hK hS hls (mf_faultOf fx13_a fx13_b (fokB_at fx13_k)) cs_L_90 kc_L_faultOf rfl ⟨Nat.le_of_ble_eq_true rfl, Nat.le_of_ble_eq_true rfl⟩ (Nat.le_of_ble_eq_true rfl) (Nat.le_of_ble_eq_true rfl) rfl (Nat.le_of_ble_eq_true rfl) dL_texts_169 (fun z13 H locs hz hS => ?_)
  rw [fx13_v] at hz; subst hz
  refine lv_ldc (v := mI (50100)) hx hb hf (ht _ kI_L_127) dL_texts_172 ?_
  refine lv_icmp_ne (tgt := 193) hx hb dL_texts_174 (by decide) (fun q => absurd rfl q) (fun _ => ?_)
  refine lv_ldc2 (v := mJ (52919922680114)) hx hb hf (ht _ kJ_L_128) dL_texts_177 ?_
  refine lv_lconst (v := mJ (0)) hx hb dL_texts_180 rfl ?_
  refine mf_call (G := G) (nL := 0) (as := [mvJ (52919922680114), mvJ (0)]) (rest := []) hx hb hml hf ht hN hK hS hls (mf_faultOf fx14_a fx14_b (fokB_at fx14_k)) cs_L_90 kc_L_faultOf rfl ⟨Nat.le_of_ble_eq_true rfl, Nat.le_of_ble_eq_true rfl⟩ (Nat.le_of_ble_eq_true rfl) (Nat.le_of_ble_eq_true rfl) rfl (Nat.le_of_ble_eq_true rfl) dL_texts_181 (fun z14 H locs hz hS => ?_)
  rw [fx14_v] at hz; subst hz
  refine lv_bipush (v := mI (106)) hx hb dL_texts_184 (by decide) ?_
  refine lv_icmp_ne (tgt := 193) hx hb dL_texts_186 (by decide) (fun q => absurd rfl q) (fun _ => ?_)
  refine lv_iconst (v := mI (1)) hx hb dL_texts_189 (by decide) ?_
  refine lv_goto (tgt := 194) hx hb dL_texts_190 (by decide) ?_
  refine W.widen (k := 465) (n := 28725) (Nat.le_of_ble_eq_true rfl) (Nat.le_of_ble_eq_true rfl) ?_
  exact W.zret (v := mI 1) hx hb hr (by decide) (fun t ht hW => ⟨⟨mI 1, (), rfl, ⟨1, rfl, rfl⟩, trivial⟩, hS.F ht⟩) hS.2.2 dL_texts_194 hlocks
