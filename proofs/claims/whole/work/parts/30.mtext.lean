/-! the reference: texts -/
set_option maxRecDepth 100000 in
set_option maxHeartbeats 1000000 in
theorem s_X9_takes {l : Launch} {G : mG} {w : mW} {lo hi : Int} (hT : TI w) (hl : 0 ≤ lo ∧ lo ≤ hi ∧ hi < 256) : Mx l G 1 yX9_takes cX9_takes 4 (some .boolean) [mvR 31, mvI lo, mvI hi] w (qI (fun z w' => ∃ b : Bool, z = mb b ∧ Tks w w' lo hi b)) := by
  refine Mx.intro (by decide) RX9 rfl [some (mvR 31), some (mvI lo), some (mvI hi), none] (Nat.le_of_ble_eq_true rfl) rfl (fun K hC => ?_)
  obtain ⟨h4, hch, hxt⟩ := id hT
  have hcx : w 31 14 < w 31 4 → cR w (w 31 14) = w 34 (w 31 14) ∧ (0 ≤ w 34 (w 31 14) ∧ w 34 (w 31 14) < 256) := fun h => ⟨by unfold cR; rw [if_pos h, if_pos (by omega)], hch _ hxt.1 h⟩
  have hcn : ¬ w 31 14 < w 31 4 → cR w (w 31 14) = -1 := fun h => by unfold cR; rw [if_neg h]
  refine wm_aload_n hC 0 (pc := 0) dX9_takes_0 rfl rfl ?_
  refine wm_getI hC 31 14 fl_X9_219_8 rfl rfl rfl (pc := 1) dX9_takes_1 ?_
  refine wm_aload_n hC 0 (pc := 4) dX9_takes_4 rfl rfl ?_
  refine wm_getI hC 31 4 fl_X9_215_8 rfl rfl rfl (pc := 5) dX9_takes_5 ?_
  refine wm_icmp_ge hC 32 (pc := 8) dX9_takes_8 (by decide) (by omega) (by omega) (fun h8 => ?_) (fun h8 => ?_)
  · have hq := hcn (by omega)
    refine wm_iconst hC (pc := 32) dX9_takes_32 ?_
    refine wm_istore_n hC 3 (pc := 33) dX9_takes_33 rfl (by decide) rfl ?_
    refine wm_aload_n hC 0 (pc := 34) dX9_takes_34 rfl rfl ?_
    refine wm_iload_n hC 3 (pc := 35) dX9_takes_35 rfl rfl ?_
    refine wm_if_eq hC 53 (pc := 36) dX9_takes_36 (by decide) (by omega) (fun h36 => ?_) (fun h36 => ?_)
    · refine wm_iconst hC (pc := 53) dX9_takes_53 ?_
      refine wm_putI hC 31 16 fp_X9_222_8 rfl rfl rfl (pc := 54) dX9_takes_54 ?_
      refine wm_aload_n hC 0 (pc := 57) dX9_takes_57 rfl rfl ?_
      refine wm_dup hC (pc := 58) dX9_takes_58 rfl ?_
      refine wm_getI hC 31 14 fl_X9_219_8 rfl rfl rfl (pc := 59) dX9_takes_59 ?_
      refine wm_iload_n hC 3 (pc := 62) dX9_takes_62 rfl rfl ?_
      refine wm_if_eq hC 70 (pc := 63) dX9_takes_63 (by decide) (by omega) (fun h63 => ?_) (fun h63 => ?_)
      · refine wm_iconst hC (pc := 70) dX9_takes_70 ?_
        refine wm_iadd hC (pc := 71) dX9_takes_71 ?_
        refine wm_putI hC 31 14 fp_X9_219_8 rfl rfl rfl (pc := 72) dX9_takes_72 ?_
        refine wm_iload_n hC 3 (pc := 75) dX9_takes_75 rfl rfl ?_
        refine wm_zretI hC (pc := 76) dX9_takes_76 (by decide) ?_
        first
        | (exfalso; omega)
        | (refine ⟨true, rfl, ⟨fun a ha => by rw [mup_ne ha, mup_ne ha], fun b h14 h16 => by rw [mup_get, if_neg (fun e => h14 e.2), mup_get, if_neg (fun e => h16 e.2)]⟩, Or.inl ⟨rfl, by omega, ?_, ?_⟩⟩
           · rw [mup_get, if_neg (by omega), mup_at]; omega
           · rw [mup_at, mup_get, if_neg (by omega)])
        | (refine ⟨false, rfl, ⟨fun a ha => by rw [mup_ne ha, mup_ne ha], fun b h14 h16 => by rw [mup_get, if_neg (fun e => h14 e.2), mup_get, if_neg (fun e => h16 e.2)]⟩, Or.inr ⟨rfl, by omega, ?_⟩⟩
           rw [mup_at, mup_get, if_neg (by omega)]; omega)
      · refine wm_iconst hC (pc := 66) dX9_takes_66 ?_
        refine wm_goto hC 71 (pc := 67) dX9_takes_67 (by decide) ?_
        refine wm_iadd hC (pc := 71) dX9_takes_71 ?_
        refine wm_putI hC 31 14 fp_X9_219_8 rfl rfl rfl (pc := 72) dX9_takes_72 ?_
        refine wm_iload_n hC 3 (pc := 75) dX9_takes_75 rfl rfl ?_
        refine wm_zretI hC (pc := 76) dX9_takes_76 (by decide) ?_
        first
        | (exfalso; omega)
        | (refine ⟨true, rfl, ⟨fun a ha => by rw [mup_ne ha, mup_ne ha], fun b h14 h16 => by rw [mup_get, if_neg (fun e => h14 e.2), mup_get, if_neg (fun e => h16 e.2)]⟩, Or.inl ⟨rfl, by omega, ?_, ?_⟩⟩
           · rw [mup_get, if_neg (by omega), mup_at]; omega
           · rw [mup_at, mup_get, if_neg (by omega)])
        | (refine ⟨false, rfl, ⟨fun a ha => by rw [mup_ne ha, mup_ne ha], fun b h14 h16 => by rw [mup_get, if_neg (fun e => h14 e.2), mup_get, if_neg (fun e => h16 e.2)]⟩, Or.inr ⟨rfl, by omega, ?_⟩⟩
           rw [mup_at, mup_get, if_neg (by omega)]; omega)
    · refine wm_aload_n hC 0 (pc := 39) dX9_takes_39 rfl rfl ?_
      refine wm_getR hC fl_X9_16_8 rfl rfl (pc := 40) dX9_takes_40 ?_
      refine wm_aload_n hC 0 (pc := 43) dX9_takes_43 rfl rfl ?_
      refine wm_getI hC 31 14 fl_X9_219_8 rfl rfl rfl (pc := 44) dX9_takes_44 ?_
      refine wm_caload hC rfl (by omega) (by decide) (pc := 47) dX9_takes_47 ?_
      refine wm_iload_n hC 1 (pc := 48) dX9_takes_48 rfl rfl ?_
      refine wm_isub hC (pc := 49) dX9_takes_49 ?_
      refine wm_goto hC 54 (pc := 50) dX9_takes_50 (by decide) ?_
      refine wm_putI hC 31 16 fp_X9_222_8 rfl rfl rfl (pc := 54) dX9_takes_54 ?_
      refine wm_aload_n hC 0 (pc := 57) dX9_takes_57 rfl rfl ?_
      refine wm_dup hC (pc := 58) dX9_takes_58 rfl ?_
      refine wm_getI hC 31 14 fl_X9_219_8 rfl rfl rfl (pc := 59) dX9_takes_59 ?_
      refine wm_iload_n hC 3 (pc := 62) dX9_takes_62 rfl rfl ?_
      refine wm_if_eq hC 70 (pc := 63) dX9_takes_63 (by decide) (by omega) (fun h63 => ?_) (fun h63 => ?_)
      · refine wm_iconst hC (pc := 70) dX9_takes_70 ?_
        refine wm_iadd hC (pc := 71) dX9_takes_71 ?_
        refine wm_putI hC 31 14 fp_X9_219_8 rfl rfl rfl (pc := 72) dX9_takes_72 ?_
        refine wm_iload_n hC 3 (pc := 75) dX9_takes_75 rfl rfl ?_
        refine wm_zretI hC (pc := 76) dX9_takes_76 (by decide) ?_
        first
        | (exfalso; omega)
        | (refine ⟨true, rfl, ⟨fun a ha => by rw [mup_ne ha, mup_ne ha], fun b h14 h16 => by rw [mup_get, if_neg (fun e => h14 e.2), mup_get, if_neg (fun e => h16 e.2)]⟩, Or.inl ⟨rfl, by omega, ?_, ?_⟩⟩
           · rw [mup_get, if_neg (by omega), mup_at]; omega
           · rw [mup_at, mup_get, if_neg (by omega)])
        | (refine ⟨false, rfl, ⟨fun a ha => by rw [mup_ne ha, mup_ne ha], fun b h14 h16 => by rw [mup_get, if_neg (fun e => h14 e.2), mup_get, if_neg (fun e => h16 e.2)]⟩, Or.inr ⟨rfl, by omega, ?_⟩⟩
           rw [mup_at, mup_get, if_neg (by omega)]; omega)
      · refine wm_iconst hC (pc := 66) dX9_takes_66 ?_
        refine wm_goto hC 71 (pc := 67) dX9_takes_67 (by decide) ?_
        refine wm_iadd hC (pc := 71) dX9_takes_71 ?_
        refine wm_putI hC 31 14 fp_X9_219_8 rfl rfl rfl (pc := 72) dX9_takes_72 ?_
        refine wm_iload_n hC 3 (pc := 75) dX9_takes_75 rfl rfl ?_
        refine wm_zretI hC (pc := 76) dX9_takes_76 (by decide) ?_
        first
        | (exfalso; omega)
        | (refine ⟨true, rfl, ⟨fun a ha => by rw [mup_ne ha, mup_ne ha], fun b h14 h16 => by rw [mup_get, if_neg (fun e => h14 e.2), mup_get, if_neg (fun e => h16 e.2)]⟩, Or.inl ⟨rfl, by omega, ?_, ?_⟩⟩
           · rw [mup_get, if_neg (by omega), mup_at]; omega
           · rw [mup_at, mup_get, if_neg (by omega)])
        | (refine ⟨false, rfl, ⟨fun a ha => by rw [mup_ne ha, mup_ne ha], fun b h14 h16 => by rw [mup_get, if_neg (fun e => h14 e.2), mup_get, if_neg (fun e => h16 e.2)]⟩, Or.inr ⟨rfl, by omega, ?_⟩⟩
           rw [mup_at, mup_get, if_neg (by omega)]; omega)
  · have hq := hcx h8
    refine wm_aload_n hC 0 (pc := 11) dX9_takes_11 rfl rfl ?_
    refine wm_getR hC fl_X9_16_8 rfl rfl (pc := 12) dX9_takes_12 ?_
    refine wm_aload_n hC 0 (pc := 15) dX9_takes_15 rfl rfl ?_
    refine wm_getI hC 31 14 fl_X9_219_8 rfl rfl rfl (pc := 16) dX9_takes_16 ?_
    refine wm_caload hC rfl (by omega) (by decide) (pc := 19) dX9_takes_19 ?_
    refine wm_iload_n hC 1 (pc := 20) dX9_takes_20 rfl rfl ?_
    refine wm_iload_n hC 2 (pc := 21) dX9_takes_21 rfl rfl ?_
    refine wm_pS hC cs_X9_59 kc_X9_in (s_X9_in (by omega) (by omega) (by omega)) rfl (by decide) rfl (Nat.le_of_ble_eq_true rfl) (pc := 22) dX9_takes_22 ?_
    refine wm_ifd_eq hC 32 (pc := 25) dX9_takes_25 (by decide) (fun h25 => ?_) (fun h25 => ?_)
    · refine wm_iconst hC (pc := 32) dX9_takes_32 ?_
      refine wm_istore_n hC 3 (pc := 33) dX9_takes_33 rfl (by decide) rfl ?_
      refine wm_aload_n hC 0 (pc := 34) dX9_takes_34 rfl rfl ?_
      refine wm_iload_n hC 3 (pc := 35) dX9_takes_35 rfl rfl ?_
      refine wm_if_eq hC 53 (pc := 36) dX9_takes_36 (by decide) (by omega) (fun h36 => ?_) (fun h36 => ?_)
      · refine wm_iconst hC (pc := 53) dX9_takes_53 ?_
        refine wm_putI hC 31 16 fp_X9_222_8 rfl rfl rfl (pc := 54) dX9_takes_54 ?_
        refine wm_aload_n hC 0 (pc := 57) dX9_takes_57 rfl rfl ?_
        refine wm_dup hC (pc := 58) dX9_takes_58 rfl ?_
        refine wm_getI hC 31 14 fl_X9_219_8 rfl rfl rfl (pc := 59) dX9_takes_59 ?_
        refine wm_iload_n hC 3 (pc := 62) dX9_takes_62 rfl rfl ?_
        refine wm_if_eq hC 70 (pc := 63) dX9_takes_63 (by decide) (by omega) (fun h63 => ?_) (fun h63 => ?_)
        · refine wm_iconst hC (pc := 70) dX9_takes_70 ?_
          refine wm_iadd hC (pc := 71) dX9_takes_71 ?_
          refine wm_putI hC 31 14 fp_X9_219_8 rfl rfl rfl (pc := 72) dX9_takes_72 ?_
          refine wm_iload_n hC 3 (pc := 75) dX9_takes_75 rfl rfl ?_
          refine wm_zretI hC (pc := 76) dX9_takes_76 (by decide) ?_
          first
          | (exfalso; omega)
          | (refine ⟨true, rfl, ⟨fun a ha => by rw [mup_ne ha, mup_ne ha], fun b h14 h16 => by rw [mup_get, if_neg (fun e => h14 e.2), mup_get, if_neg (fun e => h16 e.2)]⟩, Or.inl ⟨rfl, by omega, ?_, ?_⟩⟩
             · rw [mup_get, if_neg (by omega), mup_at]; omega
             · rw [mup_at, mup_get, if_neg (by omega)])
          | (refine ⟨false, rfl, ⟨fun a ha => by rw [mup_ne ha, mup_ne ha], fun b h14 h16 => by rw [mup_get, if_neg (fun e => h14 e.2), mup_get, if_neg (fun e => h16 e.2)]⟩, Or.inr ⟨rfl, by omega, ?_⟩⟩
             rw [mup_at, mup_get, if_neg (by omega)]; omega)
        · refine wm_iconst hC (pc := 66) dX9_takes_66 ?_
          refine wm_goto hC 71 (pc := 67) dX9_takes_67 (by decide) ?_
          refine wm_iadd hC (pc := 71) dX9_takes_71 ?_
          refine wm_putI hC 31 14 fp_X9_219_8 rfl rfl rfl (pc := 72) dX9_takes_72 ?_
          refine wm_iload_n hC 3 (pc := 75) dX9_takes_75 rfl rfl ?_
          refine wm_zretI hC (pc := 76) dX9_takes_76 (by decide) ?_
          first
          | (exfalso; omega)
          | (refine ⟨true, rfl, ⟨fun a ha => by rw [mup_ne ha, mup_ne ha], fun b h14 h16 => by rw [mup_get, if_neg (fun e => h14 e.2), mup_get, if_neg (fun e => h16 e.2)]⟩, Or.inl ⟨rfl, by omega, ?_, ?_⟩⟩
             · rw [mup_get, if_neg (by omega), mup_at]; omega
             · rw [mup_at, mup_get, if_neg (by omega)])
          | (refine ⟨false, rfl, ⟨fun a ha => by rw [mup_ne ha, mup_ne ha], fun b h14 h16 => by rw [mup_get, if_neg (fun e => h14 e.2), mup_get, if_neg (fun e => h16 e.2)]⟩, Or.inr ⟨rfl, by omega, ?_⟩⟩
             rw [mup_at, mup_get, if_neg (by omega)]; omega)
      · refine wm_aload_n hC 0 (pc := 39) dX9_takes_39 rfl rfl ?_
        refine wm_getR hC fl_X9_16_8 rfl rfl (pc := 40) dX9_takes_40 ?_
        refine wm_aload_n hC 0 (pc := 43) dX9_takes_43 rfl rfl ?_
        refine wm_getI hC 31 14 fl_X9_219_8 rfl rfl rfl (pc := 44) dX9_takes_44 ?_
        refine wm_caload hC rfl (by omega) (by decide) (pc := 47) dX9_takes_47 ?_
        refine wm_iload_n hC 1 (pc := 48) dX9_takes_48 rfl rfl ?_
        refine wm_isub hC (pc := 49) dX9_takes_49 ?_
        refine wm_goto hC 54 (pc := 50) dX9_takes_50 (by decide) ?_
        refine wm_putI hC 31 16 fp_X9_222_8 rfl rfl rfl (pc := 54) dX9_takes_54 ?_
        refine wm_aload_n hC 0 (pc := 57) dX9_takes_57 rfl rfl ?_
        refine wm_dup hC (pc := 58) dX9_takes_58 rfl ?_
        refine wm_getI hC 31 14 fl_X9_219_8 rfl rfl rfl (pc := 59) dX9_takes_59 ?_
        refine wm_iload_n hC 3 (pc := 62) dX9_takes_62 rfl rfl ?_
        refine wm_if_eq hC 70 (pc := 63) dX9_takes_63 (by decide) (by omega) (fun h63 => ?_) (fun h63 => ?_)
        · refine wm_iconst hC (pc := 70) dX9_takes_70 ?_
          refine wm_iadd hC (pc := 71) dX9_takes_71 ?_
          refine wm_putI hC 31 14 fp_X9_219_8 rfl rfl rfl (pc := 72) dX9_takes_72 ?_
          refine wm_iload_n hC 3 (pc := 75) dX9_takes_75 rfl rfl ?_
          refine wm_zretI hC (pc := 76) dX9_takes_76 (by decide) ?_
          first
          | (exfalso; omega)
          | (refine ⟨true, rfl, ⟨fun a ha => by rw [mup_ne ha, mup_ne ha], fun b h14 h16 => by rw [mup_get, if_neg (fun e => h14 e.2), mup_get, if_neg (fun e => h16 e.2)]⟩, Or.inl ⟨rfl, by omega, ?_, ?_⟩⟩
             · rw [mup_get, if_neg (by omega), mup_at]; omega
             · rw [mup_at, mup_get, if_neg (by omega)])
          | (refine ⟨false, rfl, ⟨fun a ha => by rw [mup_ne ha, mup_ne ha], fun b h14 h16 => by rw [mup_get, if_neg (fun e => h14 e.2), mup_get, if_neg (fun e => h16 e.2)]⟩, Or.inr ⟨rfl, by omega, ?_⟩⟩
             rw [mup_at, mup_get, if_neg (by omega)]; omega)
        · refine wm_iconst hC (pc := 66) dX9_takes_66 ?_
          refine wm_goto hC 71 (pc := 67) dX9_takes_67 (by decide) ?_
          refine wm_iadd hC (pc := 71) dX9_takes_71 ?_
          refine wm_putI hC 31 14 fp_X9_219_8 rfl rfl rfl (pc := 72) dX9_takes_72 ?_
          refine wm_iload_n hC 3 (pc := 75) dX9_takes_75 rfl rfl ?_
          refine wm_zretI hC (pc := 76) dX9_takes_76 (by decide) ?_
          first
          | (exfalso; omega)
          | (refine ⟨true, rfl, ⟨fun a ha => by rw [mup_ne ha, mup_ne ha], fun b h14 h16 => by rw [mup_get, if_neg (fun e => h14 e.2), mup_get, if_neg (fun e => h16 e.2)]⟩, Or.inl ⟨rfl, by omega, ?_, ?_⟩⟩
             · rw [mup_get, if_neg (by omega), mup_at]; omega
             · rw [mup_at, mup_get, if_neg (by omega)])
          | (refine ⟨false, rfl, ⟨fun a ha => by rw [mup_ne ha, mup_ne ha], fun b h14 h16 => by rw [mup_get, if_neg (fun e => h14 e.2), mup_get, if_neg (fun e => h16 e.2)]⟩, Or.inr ⟨rfl, by omega, ?_⟩⟩
             rw [mup_at, mup_get, if_neg (by omega)]; omega)
    · refine wm_iconst hC (pc := 28) dX9_takes_28 ?_
      refine wm_goto hC 33 (pc := 29) dX9_takes_29 (by decide) ?_
      refine wm_istore_n hC 3 (pc := 33) dX9_takes_33 rfl (by decide) rfl ?_
      refine wm_aload_n hC 0 (pc := 34) dX9_takes_34 rfl rfl ?_
      refine wm_iload_n hC 3 (pc := 35) dX9_takes_35 rfl rfl ?_
      refine wm_if_eq hC 53 (pc := 36) dX9_takes_36 (by decide) (by omega) (fun h36 => ?_) (fun h36 => ?_)
      · refine wm_iconst hC (pc := 53) dX9_takes_53 ?_
        refine wm_putI hC 31 16 fp_X9_222_8 rfl rfl rfl (pc := 54) dX9_takes_54 ?_
        refine wm_aload_n hC 0 (pc := 57) dX9_takes_57 rfl rfl ?_
        refine wm_dup hC (pc := 58) dX9_takes_58 rfl ?_
        refine wm_getI hC 31 14 fl_X9_219_8 rfl rfl rfl (pc := 59) dX9_takes_59 ?_
        refine wm_iload_n hC 3 (pc := 62) dX9_takes_62 rfl rfl ?_
        refine wm_if_eq hC 70 (pc := 63) dX9_takes_63 (by decide) (by omega) (fun h63 => ?_) (fun h63 => ?_)
        · refine wm_iconst hC (pc := 70) dX9_takes_70 ?_
          refine wm_iadd hC (pc := 71) dX9_takes_71 ?_
          refine wm_putI hC 31 14 fp_X9_219_8 rfl rfl rfl (pc := 72) dX9_takes_72 ?_
          refine wm_iload_n hC 3 (pc := 75) dX9_takes_75 rfl rfl ?_
          refine wm_zretI hC (pc := 76) dX9_takes_76 (by decide) ?_
          first
          | (exfalso; omega)
          | (refine ⟨true, rfl, ⟨fun a ha => by rw [mup_ne ha, mup_ne ha], fun b h14 h16 => by rw [mup_get, if_neg (fun e => h14 e.2), mup_get, if_neg (fun e => h16 e.2)]⟩, Or.inl ⟨rfl, by omega, ?_, ?_⟩⟩
             · rw [mup_get, if_neg (by omega), mup_at]; omega
             · rw [mup_at, mup_get, if_neg (by omega)])
          | (refine ⟨false, rfl, ⟨fun a ha => by rw [mup_ne ha, mup_ne ha], fun b h14 h16 => by rw [mup_get, if_neg (fun e => h14 e.2), mup_get, if_neg (fun e => h16 e.2)]⟩, Or.inr ⟨rfl, by omega, ?_⟩⟩
             rw [mup_at, mup_get, if_neg (by omega)]; omega)
        · refine wm_iconst hC (pc := 66) dX9_takes_66 ?_
          refine wm_goto hC 71 (pc := 67) dX9_takes_67 (by decide) ?_
          refine wm_iadd hC (pc := 71) dX9_takes_71 ?_
          refine wm_putI hC 31 14 fp_X9_219_8 rfl rfl rfl (pc := 72) dX9_takes_72 ?_
          refine wm_iload_n hC 3 (pc := 75) dX9_takes_75 rfl rfl ?_
          refine wm_zretI hC (pc := 76) dX9_takes_76 (by decide) ?_
          first
          | (exfalso; omega)
          | (refine ⟨true, rfl, ⟨fun a ha => by rw [mup_ne ha, mup_ne ha], fun b h14 h16 => by rw [mup_get, if_neg (fun e => h14 e.2), mup_get, if_neg (fun e => h16 e.2)]⟩, Or.inl ⟨rfl, by omega, ?_, ?_⟩⟩
             · rw [mup_get, if_neg (by omega), mup_at]; omega
             · rw [mup_at, mup_get, if_neg (by omega)])
          | (refine ⟨false, rfl, ⟨fun a ha => by rw [mup_ne ha, mup_ne ha], fun b h14 h16 => by rw [mup_get, if_neg (fun e => h14 e.2), mup_get, if_neg (fun e => h16 e.2)]⟩, Or.inr ⟨rfl, by omega, ?_⟩⟩
             rw [mup_at, mup_get, if_neg (by omega)]; omega)
      · refine wm_aload_n hC 0 (pc := 39) dX9_takes_39 rfl rfl ?_
        refine wm_getR hC fl_X9_16_8 rfl rfl (pc := 40) dX9_takes_40 ?_
        refine wm_aload_n hC 0 (pc := 43) dX9_takes_43 rfl rfl ?_
        refine wm_getI hC 31 14 fl_X9_219_8 rfl rfl rfl (pc := 44) dX9_takes_44 ?_
        refine wm_caload hC rfl (by omega) (by decide) (pc := 47) dX9_takes_47 ?_
        refine wm_iload_n hC 1 (pc := 48) dX9_takes_48 rfl rfl ?_
        refine wm_isub hC (pc := 49) dX9_takes_49 ?_
        refine wm_goto hC 54 (pc := 50) dX9_takes_50 (by decide) ?_
        refine wm_putI hC 31 16 fp_X9_222_8 rfl rfl rfl (pc := 54) dX9_takes_54 ?_
        refine wm_aload_n hC 0 (pc := 57) dX9_takes_57 rfl rfl ?_
        refine wm_dup hC (pc := 58) dX9_takes_58 rfl ?_
        refine wm_getI hC 31 14 fl_X9_219_8 rfl rfl rfl (pc := 59) dX9_takes_59 ?_
        refine wm_iload_n hC 3 (pc := 62) dX9_takes_62 rfl rfl ?_
        refine wm_if_eq hC 70 (pc := 63) dX9_takes_63 (by decide) (by omega) (fun h63 => ?_) (fun h63 => ?_)
        · refine wm_iconst hC (pc := 70) dX9_takes_70 ?_
          refine wm_iadd hC (pc := 71) dX9_takes_71 ?_
          refine wm_putI hC 31 14 fp_X9_219_8 rfl rfl rfl (pc := 72) dX9_takes_72 ?_
          refine wm_iload_n hC 3 (pc := 75) dX9_takes_75 rfl rfl ?_
          refine wm_zretI hC (pc := 76) dX9_takes_76 (by decide) ?_
          first
          | (exfalso; omega)
          | (refine ⟨true, rfl, ⟨fun a ha => by rw [mup_ne ha, mup_ne ha], fun b h14 h16 => by rw [mup_get, if_neg (fun e => h14 e.2), mup_get, if_neg (fun e => h16 e.2)]⟩, Or.inl ⟨rfl, by omega, ?_, ?_⟩⟩
             · rw [mup_get, if_neg (by omega), mup_at]; omega
             · rw [mup_at, mup_get, if_neg (by omega)])
          | (refine ⟨false, rfl, ⟨fun a ha => by rw [mup_ne ha, mup_ne ha], fun b h14 h16 => by rw [mup_get, if_neg (fun e => h14 e.2), mup_get, if_neg (fun e => h16 e.2)]⟩, Or.inr ⟨rfl, by omega, ?_⟩⟩
             rw [mup_at, mup_get, if_neg (by omega)]; omega)
        · refine wm_iconst hC (pc := 66) dX9_takes_66 ?_
          refine wm_goto hC 71 (pc := 67) dX9_takes_67 (by decide) ?_
          refine wm_iadd hC (pc := 71) dX9_takes_71 ?_
          refine wm_putI hC 31 14 fp_X9_219_8 rfl rfl rfl (pc := 72) dX9_takes_72 ?_
          refine wm_iload_n hC 3 (pc := 75) dX9_takes_75 rfl rfl ?_
          refine wm_zretI hC (pc := 76) dX9_takes_76 (by decide) ?_
          first
          | (exfalso; omega)
          | (refine ⟨true, rfl, ⟨fun a ha => by rw [mup_ne ha, mup_ne ha], fun b h14 h16 => by rw [mup_get, if_neg (fun e => h14 e.2), mup_get, if_neg (fun e => h16 e.2)]⟩, Or.inl ⟨rfl, by omega, ?_, ?_⟩⟩
             · rw [mup_get, if_neg (by omega), mup_at]; omega
             · rw [mup_at, mup_get, if_neg (by omega)])
          | (refine ⟨false, rfl, ⟨fun a ha => by rw [mup_ne ha, mup_ne ha], fun b h14 h16 => by rw [mup_get, if_neg (fun e => h14 e.2), mup_get, if_neg (fun e => h16 e.2)]⟩, Or.inr ⟨rfl, by omega, ?_⟩⟩
             rw [mup_at, mup_get, if_neg (by omega)]; omega)
set_option maxRecDepth 100000 in
set_option maxHeartbeats 1000000 in
theorem s_X9_kindTaken {l : Launch} {G : mG} {w : mW} (hT : TI w) : Mx l G 2 yX9_kindTaken cX9_kindTaken 1 (some .int) [mvR 31] w (qI (fun z w' => KTk w w' z)) := by
  refine Mx.intro (by decide) RX9 rfl [some (mvR 31)] (Nat.le_of_ble_eq_true rfl) rfl (fun K hC => ?_)
  refine wm_aload_n hC 0 (pc := 0) dX9_kindTaken_0 rfl rfl ?_
  refine wm_bipush hC (pc := 1) dX9_kindTaken_1 (by decide) ?_
  refine wm_bipush hC (pc := 3) dX9_kindTaken_3 (by decide) ?_
  refine wm_iV hC cv_X9_225 kc_X9_takes rfl rfl (s_X9_takes hT (by decide)) rfl (by decide) rfl (Nat.le_of_ble_eq_true rfl) (pc := 5) dX9_kindTaken_5 (fun z5 w5 hw5 => ?_)
  obtain ⟨b5, hz5, hT5⟩ := hw5
  rw [hz5]
  refine wm_ifb_eq hC 15 (pc := 8) dX9_kindTaken_8 (by decide) (fun h8 => ?_) (fun h8 => ?_)
  · have q5 : ¬ cR w (w 31 14) = 46 ∧ w5 31 14 = w 31 14 := by
      rcases hT5.2 with h | h
      · rw [h8] at h; cases h.1
      · exact ⟨by omega, h.2.2⟩
    have c5 : cR w5 = cR w := hT5.fr.c
    refine wm_aload_n hC 0 (pc := 15) dX9_kindTaken_15 rfl rfl ?_
    refine wm_bipush hC (pc := 16) dX9_kindTaken_16 (by decide) ?_
    refine wm_bipush hC (pc := 18) dX9_kindTaken_18 (by decide) ?_
    refine wm_iV hC cv_X9_225 kc_X9_takes rfl rfl (s_X9_takes (hT5.ti (by decide) hT) (by decide)) rfl (by decide) rfl (Nat.le_of_ble_eq_true rfl) (pc := 20) dX9_kindTaken_20 (fun z20 w20 hw20 => ?_)
    obtain ⟨b20, hz20, hT20⟩ := hw20
    rw [hz20]
    refine wm_ifb_eq hC 30 (pc := 23) dX9_kindTaken_23 (by decide) (fun h23 => ?_) (fun h23 => ?_)
    · have q20 : ¬ cR w (w 31 14) = 33 ∧ w20 31 14 = w 31 14 := by
        rcases hT20.2 with h | h
        · rw [h23] at h; cases h.1
        · rw [c5, q5.2] at h; exact ⟨by omega, h.2.2⟩
      have c20 : cR w20 = cR w := hT20.fr.c.trans c5
      refine wm_aload_n hC 0 (pc := 30) dX9_kindTaken_30 rfl rfl ?_
      refine wm_bipush hC (pc := 31) dX9_kindTaken_31 (by decide) ?_
      refine wm_bipush hC (pc := 33) dX9_kindTaken_33 (by decide) ?_
      refine wm_iV hC cv_X9_225 kc_X9_takes rfl rfl (s_X9_takes (hT20.ti (by decide) (hT5.ti (by decide) hT)) (by decide)) rfl (by decide) rfl (Nat.le_of_ble_eq_true rfl) (pc := 35) dX9_kindTaken_35 (fun z35 w35 hw35 => ?_)
      obtain ⟨b35, hz35, hT35⟩ := hw35
      rw [hz35]
      refine wm_ifb_eq hC 45 (pc := 38) dX9_kindTaken_38 (by decide) (fun h38 => ?_) (fun h38 => ?_)
      · have q35 : ¬ cR w (w 31 14) = 63 ∧ w35 31 14 = w 31 14 := by
          rcases hT35.2 with h | h
          · rw [h38] at h; cases h.1
          · rw [c20, q20.2] at h; exact ⟨by omega, h.2.2⟩
        refine wm_iconst hC (pc := 45) dX9_kindTaken_45 ?_
        refine wm_iretI hC (pc := 46) dX9_kindTaken_46 ?_
        first
        | exact ⟨hT5.fr, hT5.ti (by decide) hT, ⟨hT5.1.1, hT5.1.2 24 (by decide) (by decide)⟩, Or.inl ⟨by decide, by omega, by rw [q5.1]; rfl, q5.2⟩⟩
        | exact ⟨hT5.fr.trans hT20.fr, hT20.ti (by decide) (hT5.ti (by decide) hT), ⟨fun a ha => (hT20.1.1 a ha).trans (hT5.1.1 a ha), (hT20.1.2 24 (by decide) (by decide)).trans (hT5.1.2 24 (by decide) (by decide))⟩, Or.inl ⟨by decide, by omega, by rw [q20.1]; rfl, q20.2⟩⟩
        | exact ⟨hT5.fr.trans (hT20.fr.trans hT35.fr), hT35.ti (by decide) (hT20.ti (by decide) (hT5.ti (by decide) hT)), ⟨fun a ha => (hT35.1.1 a ha).trans ((hT20.1.1 a ha).trans (hT5.1.1 a ha)), (hT35.1.2 24 (by decide) (by decide)).trans ((hT20.1.2 24 (by decide) (by decide)).trans (hT5.1.2 24 (by decide) (by decide)))⟩, Or.inl ⟨by decide, by omega, by rw [q35.1]; rfl, q35.2⟩⟩
        | exact ⟨hT5.fr.trans (hT20.fr.trans hT35.fr), hT35.ti (by decide) (hT20.ti (by decide) (hT5.ti (by decide) hT)), ⟨fun a ha => (hT35.1.1 a ha).trans ((hT20.1.1 a ha).trans (hT5.1.1 a ha)), (hT35.1.2 24 (by decide) (by decide)).trans ((hT20.1.2 24 (by decide) (by decide)).trans (hT5.1.2 24 (by decide) (by decide)))⟩, Or.inr ⟨rfl, by omega, q35.2⟩⟩
      · have q35 : cR w (w 31 14) = 63 ∧ w35 31 14 = w 31 14 + 1 := by
          rcases hT35.2 with h | h
          · rw [c20, q20.2] at h; exact ⟨by omega, h.2.2.2⟩
          · rw [h38] at h; cases h.1
        refine wm_iconst hC (pc := 41) dX9_kindTaken_41 ?_
        refine wm_goto hC 46 (pc := 42) dX9_kindTaken_42 (by decide) ?_
        refine wm_iretI hC (pc := 46) dX9_kindTaken_46 ?_
        first
        | exact ⟨hT5.fr, hT5.ti (by decide) hT, ⟨hT5.1.1, hT5.1.2 24 (by decide) (by decide)⟩, Or.inl ⟨by decide, by omega, by rw [q5.1]; rfl, q5.2⟩⟩
        | exact ⟨hT5.fr.trans hT20.fr, hT20.ti (by decide) (hT5.ti (by decide) hT), ⟨fun a ha => (hT20.1.1 a ha).trans (hT5.1.1 a ha), (hT20.1.2 24 (by decide) (by decide)).trans (hT5.1.2 24 (by decide) (by decide))⟩, Or.inl ⟨by decide, by omega, by rw [q20.1]; rfl, q20.2⟩⟩
        | exact ⟨hT5.fr.trans (hT20.fr.trans hT35.fr), hT35.ti (by decide) (hT20.ti (by decide) (hT5.ti (by decide) hT)), ⟨fun a ha => (hT35.1.1 a ha).trans ((hT20.1.1 a ha).trans (hT5.1.1 a ha)), (hT35.1.2 24 (by decide) (by decide)).trans ((hT20.1.2 24 (by decide) (by decide)).trans (hT5.1.2 24 (by decide) (by decide)))⟩, Or.inl ⟨by decide, by omega, by rw [q35.1]; rfl, q35.2⟩⟩
        | exact ⟨hT5.fr.trans (hT20.fr.trans hT35.fr), hT35.ti (by decide) (hT20.ti (by decide) (hT5.ti (by decide) hT)), ⟨fun a ha => (hT35.1.1 a ha).trans ((hT20.1.1 a ha).trans (hT5.1.1 a ha)), (hT35.1.2 24 (by decide) (by decide)).trans ((hT20.1.2 24 (by decide) (by decide)).trans (hT5.1.2 24 (by decide) (by decide)))⟩, Or.inr ⟨rfl, by omega, q35.2⟩⟩
    · have q20 : cR w (w 31 14) = 33 ∧ w20 31 14 = w 31 14 + 1 := by
        rcases hT20.2 with h | h
        · rw [c5, q5.2] at h; exact ⟨by omega, h.2.2.2⟩
        · rw [h23] at h; cases h.1
      refine wm_iconst hC (pc := 26) dX9_kindTaken_26 ?_
      refine wm_goto hC 46 (pc := 27) dX9_kindTaken_27 (by decide) ?_
      refine wm_iretI hC (pc := 46) dX9_kindTaken_46 ?_
      first
      | exact ⟨hT5.fr, hT5.ti (by decide) hT, ⟨hT5.1.1, hT5.1.2 24 (by decide) (by decide)⟩, Or.inl ⟨by decide, by omega, by rw [q5.1]; rfl, q5.2⟩⟩
      | exact ⟨hT5.fr.trans hT20.fr, hT20.ti (by decide) (hT5.ti (by decide) hT), ⟨fun a ha => (hT20.1.1 a ha).trans (hT5.1.1 a ha), (hT20.1.2 24 (by decide) (by decide)).trans (hT5.1.2 24 (by decide) (by decide))⟩, Or.inl ⟨by decide, by omega, by rw [q20.1]; rfl, q20.2⟩⟩
      | exact ⟨hT5.fr.trans (hT20.fr.trans hT35.fr), hT35.ti (by decide) (hT20.ti (by decide) (hT5.ti (by decide) hT)), ⟨fun a ha => (hT35.1.1 a ha).trans ((hT20.1.1 a ha).trans (hT5.1.1 a ha)), (hT35.1.2 24 (by decide) (by decide)).trans ((hT20.1.2 24 (by decide) (by decide)).trans (hT5.1.2 24 (by decide) (by decide)))⟩, Or.inl ⟨by decide, by omega, by rw [q35.1]; rfl, q35.2⟩⟩
      | exact ⟨hT5.fr.trans (hT20.fr.trans hT35.fr), hT35.ti (by decide) (hT20.ti (by decide) (hT5.ti (by decide) hT)), ⟨fun a ha => (hT35.1.1 a ha).trans ((hT20.1.1 a ha).trans (hT5.1.1 a ha)), (hT35.1.2 24 (by decide) (by decide)).trans ((hT20.1.2 24 (by decide) (by decide)).trans (hT5.1.2 24 (by decide) (by decide)))⟩, Or.inr ⟨rfl, by omega, q35.2⟩⟩
  · have q5 : cR w (w 31 14) = 46 ∧ w5 31 14 = w 31 14 + 1 := by
      rcases hT5.2 with h | h
      · exact ⟨by omega, h.2.2.2⟩
      · rw [h8] at h; cases h.1
    refine wm_iconst hC (pc := 11) dX9_kindTaken_11 ?_
    refine wm_goto hC 46 (pc := 12) dX9_kindTaken_12 (by decide) ?_
    refine wm_iretI hC (pc := 46) dX9_kindTaken_46 ?_
    first
    | exact ⟨hT5.fr, hT5.ti (by decide) hT, ⟨hT5.1.1, hT5.1.2 24 (by decide) (by decide)⟩, Or.inl ⟨by decide, by omega, by rw [q5.1]; rfl, q5.2⟩⟩
    | exact ⟨hT5.fr.trans hT20.fr, hT20.ti (by decide) (hT5.ti (by decide) hT), ⟨fun a ha => (hT20.1.1 a ha).trans (hT5.1.1 a ha), (hT20.1.2 24 (by decide) (by decide)).trans (hT5.1.2 24 (by decide) (by decide))⟩, Or.inl ⟨by decide, by omega, by rw [q20.1]; rfl, q20.2⟩⟩
    | exact ⟨hT5.fr.trans (hT20.fr.trans hT35.fr), hT35.ti (by decide) (hT20.ti (by decide) (hT5.ti (by decide) hT)), ⟨fun a ha => (hT35.1.1 a ha).trans ((hT20.1.1 a ha).trans (hT5.1.1 a ha)), (hT35.1.2 24 (by decide) (by decide)).trans ((hT20.1.2 24 (by decide) (by decide)).trans (hT5.1.2 24 (by decide) (by decide)))⟩, Or.inl ⟨by decide, by omega, by rw [q35.1]; rfl, q35.2⟩⟩
    | exact ⟨hT5.fr.trans (hT20.fr.trans hT35.fr), hT35.ti (by decide) (hT20.ti (by decide) (hT5.ti (by decide) hT)), ⟨fun a ha => (hT35.1.1 a ha).trans ((hT20.1.1 a ha).trans (hT5.1.1 a ha)), (hT35.1.2 24 (by decide) (by decide)).trans ((hT20.1.2 24 (by decide) (by decide)).trans (hT5.1.2 24 (by decide) (by decide)))⟩, Or.inr ⟨rfl, by omega, q35.2⟩⟩
set_option maxRecDepth 100000 in
set_option maxHeartbeats 1000000 in
theorem s_X9_takesArrows {l : Launch} {G : mG} {w : mW} (hT : TI w) (h2 : 2 ≤ w 31 14) (h24 : w 31 24 = 0) : Mx l G 2 yX9_takesArrows cX9_takesArrows 1 (some .boolean) [mvR 31] w (qI (fun z w' => ∃ (b : Bool) (m : Nat), z = mb b ∧ ArI w w' (w 31 14) m ∧ TI w' ∧ ((b = true ∧ w' 31 14 = w 31 14 + 2 * (m : Int) ∧ ¬ (97 ≤ cR w (w 31 14 + 2 * (m : Int)) ∧ cR w (w 31 14 + 2 * (m : Int)) ≤ 102)) ∨ (b = false ∧ w' 31 14 = w 31 14 + 2 * (m : Int) + 1 ∧ (97 ≤ cR w (w 31 14 + 2 * (m : Int)) ∧ cR w (w 31 14 + 2 * (m : Int)) ≤ 102) ∧ ¬ (48 ≤ cR w (w 31 14 + 2 * (m : Int) + 1) ∧ cR w (w 31 14 + 2 * (m : Int) + 1) ≤ 55))))) := by
  refine Mx.intro (by decide) RX9 rfl [some (mvR 31)] (Nat.le_of_ble_eq_true rfl) rfl (fun K hC => ?_)
  have lp0 : ∀ (n : Nat) (m : Nat) (u : mW), n = 80 - m → ArI w u (w 31 14) m → TI u → u 31 14 = w 31 14 + 2 * (m : Int) → Wm l G K 2 1 (qI (fun z w' => ∃ (b : Bool) (m : Nat), z = mb b ∧ ArI w w' (w 31 14) m ∧ TI w' ∧ ((b = true ∧ w' 31 14 = w 31 14 + 2 * (m : Int) ∧ ¬ (97 ≤ cR w (w 31 14 + 2 * (m : Int)) ∧ cR w (w 31 14 + 2 * (m : Int)) ≤ 102)) ∨ (b = false ∧ w' 31 14 = w 31 14 + 2 * (m : Int) + 1 ∧ (97 ≤ cR w (w 31 14 + 2 * (m : Int)) ∧ cR w (w 31 14 + 2 * (m : Int)) ≤ 102) ∧ ¬ (48 ≤ cR w (w 31 14 + 2 * (m : Int) + 1) ∧ cR w (w 31 14 + 2 * (m : Int) + 1) ≤ 55))))) 0 [some (mvR 31)] [] u := by
    intro n
    induction n using Nat.strongRecOn with
    | _ n ih =>
    intro m u hn hA hTu hx
    have cu : cR u = cR w := hA.1.c
    refine wm_aload_n hC 0 (pc := 0) dX9_takesArrows_0 rfl rfl ?_
    refine wm_bipush hC (pc := 1) dX9_takesArrows_1 (by decide) ?_
    refine wm_bipush hC (pc := 3) dX9_takesArrows_3 (by decide) ?_
    refine wm_iV hC cv_X9_225 kc_X9_takes rfl rfl (s_X9_takes hTu (by decide)) rfl (by decide) rfl (Nat.le_of_ble_eq_true rfl) (pc := 5) dX9_takesArrows_5 (fun z5 w5 hw5 => ?_)
    obtain ⟨b5, hz5, hT5⟩ := hw5
    rw [hz5]
    refine wm_ifb_eq hC 63 (pc := 8) dX9_takesArrows_8 (by decide) (fun h8 => ?_) (fun h8 => ?_)
    · have q5 : ¬ (97 ≤ cR w (w 31 14 + 2 * (m : Int)) ∧ cR w (w 31 14 + 2 * (m : Int)) ≤ 102) ∧ w5 31 14 = u 31 14 := by
        rcases hT5.2 with h | h
        · rw [h8] at h; cases h.1
        · rw [cu, hx] at h; exact ⟨h.2.1, by omega⟩
      refine wm_iconst hC (pc := 63) dX9_takesArrows_63 ?_
      refine wm_zretI hC (pc := 64) dX9_takesArrows_64 (by decide) ?_
      refine ⟨true, m, rfl, ⟨hA.1.trans hT5.fr, (hT5.1.2 24 (by decide) (by decide)).trans hA.2.1, fun k k0 k1 => ?_⟩, hT5.ti (by decide) hTu, Or.inl ⟨rfl, by omega, q5.1⟩⟩
      rw [hT5.1.1 44 (by decide), hT5.1.1 45 (by decide)]; exact hA.2.2 k k0 k1
    · subst h8
      have q5 : (97 ≤ cR w (w 31 14 + 2 * (m : Int)) ∧ cR w (w 31 14 + 2 * (m : Int)) ≤ 102) ∧ w5 31 14 = u 31 14 + 1 := by
        rcases hT5.2 with h | h
        · rw [cu, hx] at h; exact ⟨h.2.1, by omega⟩
        · cases h.1
      have hTi5 := hT5.ti (by decide) hTu
      have e24 : w5 31 24 = (m : Int) := (hT5.1.2 24 (by decide) (by decide)).trans hA.2.1
      have e4 : w5 31 4 = w 31 4 := (hT5.1.2 4 (by decide) (by decide)).trans (hA.1.2 4 (by decide) (by decide) (by decide))
      have hr5 := hTi5.2.2
      have hr4 := hT.1
      refine wm_aload_n hC 0 (pc := 11) dX9_takesArrows_11 rfl rfl ?_
      refine wm_getR hC fl_X9_49_8 rfl rfl (pc := 12) dX9_takesArrows_12 ?_
      refine wm_aload_n hC 0 (pc := 15) dX9_takesArrows_15 rfl rfl ?_
      refine wm_getI hC 31 24 fl_X9_228_8 rfl rfl rfl (pc := 16) dX9_takesArrows_16 ?_
      refine wm_aload_n hC 0 (pc := 19) dX9_takesArrows_19 rfl rfl ?_
      refine wm_getI hC 31 16 fl_X9_222_8 rfl rfl rfl (pc := 20) dX9_takesArrows_20 ?_
      refine wm_iastore hC rfl (by omega) (by decide) (pc := 23) dX9_takesArrows_23 ?_
      obtain ⟨v, hv⟩ : ∃ v, v = mup w5 44 (w5 31 24) (w5 31 16) := ⟨_, rfl⟩
      rw [← hv]
      have ev : v 31 = w5 31 := by rw [hv]; exact mup_ne (by decide)
      have e34 : v 34 = w5 34 := by rw [hv]; exact mup_ne (by decide)
      have hTv : TI v := hTi5.congr (by rw [ev]) e34 (by rw [ev]; exact hTi5.2.2)
      have cv : cR v = cR w := (cR_congr (by rw [ev]) e34).trans (hT5.fr.c.trans cu)
      have e14 : v 31 14 = w 31 14 + 2 * (m : Int) + 1 := by rw [ev]; omega
      refine wm_aload_n hC 0 (pc := 24) dX9_takesArrows_24 rfl rfl ?_
      refine wm_bipush hC (pc := 25) dX9_takesArrows_25 (by decide) ?_
      refine wm_bipush hC (pc := 27) dX9_takesArrows_27 (by decide) ?_
      refine wm_iV hC cv_X9_225 kc_X9_takes rfl rfl (s_X9_takes hTv (by decide)) rfl (by decide) rfl (Nat.le_of_ble_eq_true rfl) (pc := 29) dX9_takesArrows_29 (fun z29 w29 hw29 => ?_)
      obtain ⟨b29, hz29, hT29⟩ := hw29
      rw [hz29]
      refine wm_ifb_ne hC 37 (pc := 32) dX9_takesArrows_32 (by decide) (fun h32 => ?_) (fun h32 => ?_)
      · subst h32
        have q29 : w29 31 14 = w 31 14 + 2 * (m : Int) + 2 := by
          rcases hT29.2 with h | h
          · rw [e14] at h; omega
          · cases h.1
        have f24 : w29 31 24 = (m : Int) := by rw [hT29.1.2 24 (by decide) (by decide), ev]; exact e24
        refine wm_aload_n hC 0 (pc := 37) dX9_takesArrows_37 rfl rfl ?_
        refine wm_getR hC fl_X9_52_8 rfl rfl (pc := 38) dX9_takesArrows_38 ?_
        refine wm_aload_n hC 0 (pc := 41) dX9_takesArrows_41 rfl rfl ?_
        refine wm_getI hC 31 24 fl_X9_228_8 rfl rfl rfl (pc := 42) dX9_takesArrows_42 ?_
        refine wm_aload_n hC 0 (pc := 45) dX9_takesArrows_45 rfl rfl ?_
        refine wm_getI hC 31 16 fl_X9_222_8 rfl rfl rfl (pc := 46) dX9_takesArrows_46 ?_
        refine wm_iastore hC rfl (by omega) (by decide) (pc := 49) dX9_takesArrows_49 ?_
        refine wm_aload_n hC 0 (pc := 50) dX9_takesArrows_50 rfl rfl ?_
        refine wm_dup hC (pc := 51) dX9_takesArrows_51 rfl ?_
        refine wm_getI hC 31 24 fl_X9_228_8 rfl rfl rfl (pc := 52) dX9_takesArrows_52 ?_
        refine wm_iconst hC (pc := 55) dX9_takesArrows_55 ?_
        refine wm_iadd hC (pc := 56) dX9_takesArrows_56 ?_
        refine wm_putI hC 31 24 fp_X9_228_8 rfl rfl rfl (pc := 57) dX9_takesArrows_57 ?_
        refine wm_goto hC 0 (pc := 60) dX9_takesArrows_60 (by decide) ?_
        exact ih _ (by omega) (m + 1) _ rfl (hA.step hx hT5 hv hT29) ((hT29.ti (by decide) hTv).congr (by rw [mup_get, if_neg (by omega), mup_ne (by decide)]) (by rw [mup_ne (by decide), mup_ne (by decide)]) (by rw [mup_get, if_neg (by omega), mup_ne (by decide)]; exact (hT29.ti (by decide) hTv).2.2)) (by rw [mup_get, if_neg (by omega), mup_ne (by decide)]; omega)
      · have q29 : ¬ (48 ≤ cR w (w 31 14 + 2 * (m : Int) + 1) ∧ cR w (w 31 14 + 2 * (m : Int) + 1) ≤ 55) ∧ w29 31 14 = w 31 14 + 2 * (m : Int) + 1 := by
          rcases hT29.2 with h | h
          · rw [h32] at h; cases h.1
          · rw [cv, e14] at h; exact ⟨h.2.1, by omega⟩
        refine wm_iconst hC (pc := 35) dX9_takesArrows_35 ?_
        refine wm_zretI hC (pc := 36) dX9_takesArrows_36 (by decide) ?_
        exact ⟨false, m, rfl, hA.half hT5 hv hT29, hT29.ti (by decide) hTv, Or.inr ⟨rfl, q29.2, q5.1, q29.1⟩⟩
  exact lp0 _ 0 w rfl ⟨⟨fun _ _ _ _ => rfl, fun _ _ _ _ => rfl⟩, h24, fun k k0 k1 => absurd k1 (by omega)⟩ hT (by omega)
set_option maxRecDepth 100000 in
set_option maxHeartbeats 400000 in
theorem s_X9_twice {l : Launch} {G : mG} {w : mW} {m : Nat} (hm : w 31 24 = (m : Int)) (hm39 : m ≤ 39) (hg : ∀ k : Int, 0 ≤ k → k < m → 0 ≤ w 44 k ∧ w 44 k < 6) : Mx l G 0 yX9_twice cX9_twice 3 (some .int) [mvR 31] w (qP (mvI (twA (w 44) m 0 0)) w) := by
  refine Mx.intro (by decide) RX9 rfl [some (mvR 31), none, none] (Nat.le_of_ble_eq_true rfl) rfl (fun K hC => ?_)
  refine wm_iconst hC (pc := 0) dX9_twice_0 ?_
  refine wm_istore_n hC 1 (pc := 1) dX9_twice_1 rfl (by decide) rfl ?_
  refine wm_iconst hC (pc := 2) dX9_twice_2 ?_
  refine wm_istore_n hC 2 (pc := 3) dX9_twice_3 rfl (by decide) rfl ?_
  have lp4 : ∀ (n : Nat) (k S : Nat), n = m - k → k ≤ m → S < 64 → twA (w 44) m 0 0 = twA (w 44) (m - k) k S → Wm l G K 0 3 (qP (mvI (twA (w 44) m 0 0)) w) 4 [some (mvR 31), some (mvI (S : Int)), some (mvI (k : Int))] [] w := by
    intro n
    induction n using Nat.strongRecOn with
    | _ n ih =>
    intro k S hn hk hS he
    refine wm_iload_n hC 2 (pc := 4) dX9_twice_4 rfl rfl ?_
    refine wm_aload_n hC 0 (pc := 5) dX9_twice_5 rfl rfl ?_
    refine wm_getI hC 31 24 fl_X9_228_8 rfl rfl rfl (pc := 6) dX9_twice_6 ?_
    refine wm_icmp_ge hC 50 (pc := 9) dX9_twice_9 (by decide) (by omega) (by rw [hm]; omega) (fun h9 => ?_) (fun h9 => ?_)
    · rw [hm] at h9
      refine wm_iconst hC (pc := 50) dX9_twice_50 ?_
      refine wm_iretP hC (pc := 51) dX9_twice_51 ?_ rfl
      have : k = m := by omega
      subst this
      rw [he, Nat.sub_self]; rfl
    · rw [hm] at h9
      have hgk := hg (k : Int) (by omega) (by omega)
      have hst : twA (w 44) m 0 0 = if S.testBit (w 44 (k : Int)).toNat then w 44 (k : Int) else twA (w 44) (m - (k + 1)) (k + 1) (S ||| 2 ^ (w 44 (k : Int)).toNat) := by rw [he, show m - k = (m - (k + 1)) + 1 by omega]; rfl
      refine wm_iload_n hC 1 (pc := 12) dX9_twice_12 rfl rfl ?_
      refine wm_aload_n hC 0 (pc := 13) dX9_twice_13 rfl rfl ?_
      refine wm_getR hC fl_X9_49_8 rfl rfl (pc := 14) dX9_twice_14 ?_
      refine wm_iload_n hC 2 (pc := 17) dX9_twice_17 rfl rfl ?_
      refine wm_iaload hC rfl (by omega) (by decide) (pc := 18) dX9_twice_18 ?_
      refine wm_ishr hC S (w 44 (k : Int)).toNat (pc := 19) dX9_twice_19 rfl (by omega) (by omega) (by omega) ?_
      refine wm_iconst hC (pc := 20) dX9_twice_20 ?_
      refine wm_iand hC (S / 2 ^ (w 44 (k : Int)).toNat) 1 (pc := 21) dX9_twice_21 rfl rfl ?_
      rw [mtb]
      have hbt : (S.testBit (w 44 (k : Int)).toNat).toNat < 2 := by cases S.testBit (w 44 (k : Int)).toNat <;> decide
      refine wm_iconst hC (pc := 22) dX9_twice_22 ?_
      refine wm_icmp_ne hC 33 (pc := 23) dX9_twice_23 (by decide) (by omega) (by omega) (fun h23 => ?_) (fun h23 => ?_)
      · have hb : S.testBit (w 44 (k : Int)).toNat = false := by cases hb : S.testBit (w 44 (k : Int)).toNat <;> simp [hb] at h23 ⊢
        refine wm_iload_n hC 1 (pc := 33) dX9_twice_33 rfl rfl ?_
        refine wm_iconst hC (pc := 34) dX9_twice_34 ?_
        refine wm_aload_n hC 0 (pc := 35) dX9_twice_35 rfl rfl ?_
        refine wm_getR hC fl_X9_49_8 rfl rfl (pc := 36) dX9_twice_36 ?_
        refine wm_iload_n hC 2 (pc := 39) dX9_twice_39 rfl rfl ?_
        refine wm_iaload hC rfl (by omega) (by decide) (pc := 40) dX9_twice_40 ?_
        refine wm_ishl1 hC (w 44 (k : Int)).toNat (pc := 41) dX9_twice_41 (by omega) (by omega) ?_
        refine wm_ior hC S (2 ^ (w 44 (k : Int)).toNat) (pc := 42) dX9_twice_42 rfl rfl ?_
        refine wm_istore_n hC 1 (pc := 43) dX9_twice_43 rfl (by decide) rfl ?_
        refine wm_iinc hC (pc := 44) dX9_twice_44 rfl rfl (by decide) rfl ?_
        refine wm_goto hC 4 (pc := 47) dX9_twice_47 (by decide) ?_
        exact ih _ (by omega) (k + 1) (S ||| 2 ^ (w 44 (k : Int)).toNat) rfl (by omega) (Nat.or_lt_two_pow (n := 6) hS (Nat.pow_lt_pow_right (by decide) (by omega))) (by rw [hst, hb]; rfl)
      · have hb : S.testBit (w 44 (k : Int)).toNat = true := by cases hb : S.testBit (w 44 (k : Int)).toNat <;> simp [hb] at h23 ⊢
        refine wm_aload_n hC 0 (pc := 26) dX9_twice_26 rfl rfl ?_
        refine wm_getR hC fl_X9_49_8 rfl rfl (pc := 27) dX9_twice_27 ?_
        refine wm_iload_n hC 2 (pc := 30) dX9_twice_30 rfl rfl ?_
        refine wm_iaload hC rfl (by omega) (by decide) (pc := 31) dX9_twice_31 ?_
        refine wm_iretP hC (pc := 32) dX9_twice_32 ?_ rfl
        rw [hst, hb]; rfl
  exact lp4 _ 0 0 rfl (by omega) (by decide) rfl
set_option maxRecDepth 100000 in
set_option maxHeartbeats 4000000 in
theorem s_X9_breaksOff {l : Launch} {G : mG} {w : mW}  : Mx l G 0 yX9_breaksOff cX9_breaksOff 1 (some .int) [mvR 31] w (qI (fun z w' => z = 1 ∧ w' = mup w 31 18 (w 31 14 - w 31 15))) := by
  refine Mx.intro (by decide) RX9 rfl [some (mvR 31)] (Nat.le_of_ble_eq_true rfl) rfl (fun K hC => ?_)
  refine wm_aload_n hC 0 (pc := 0) dX9_breaksOff_0 rfl rfl ?_
  refine wm_aload_n hC 0 (pc := 1) dX9_breaksOff_1 rfl rfl ?_
  refine wm_getI hC 31 14 fl_X9_219_8 rfl rfl rfl (pc := 2) dX9_breaksOff_2 ?_
  refine wm_aload_n hC 0 (pc := 5) dX9_breaksOff_5 rfl rfl ?_
  refine wm_getI hC 31 15 fl_X9_231_8 rfl rfl rfl (pc := 6) dX9_breaksOff_6 ?_
  refine wm_isub hC (pc := 9) dX9_breaksOff_9 ?_
  refine wm_putI hC 31 18 fp_X9_234_8 rfl rfl rfl (pc := 10) dX9_breaksOff_10 ?_
  refine wm_iconst hC (pc := 13) dX9_breaksOff_13 ?_
  refine wm_iretI hC (pc := 14) dX9_breaksOff_14 ?_
  exact ⟨rfl, rfl⟩
