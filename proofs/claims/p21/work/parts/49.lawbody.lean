/-! THE LAW, FROM BEHIND ITS OBJECT AND ITS ROW -/
set_option maxRecDepth 100000 in
set_option maxHeartbeats 8000000 in
theorem law_body {l : Launch} {G : mG} {K : mK} {w : mW} {Ln : Nat} (hg : (mlaysG G)[31]? = some (.inr (3, 64))) (hC : mC G K 11 RL cL_law (some .boolean)) (hX : Scr G K Ln) (hL : Ln ≤ 260) {V : Int → Int} (hO : Ob w P0 [] [] V) : Wm l G K 12 11 (qI (fun z _ => z = 1)) 33 [some (mvR 40), some (mvR 0), some (mvR 31), none, none, none, none, none, none, none, none] [] w := by
  refine wm_iconst hC (pc := 33) dL_law_33 ?_
  refine wm_istore_n hC 3 (pc := 34) dL_law_34 rfl (by decide) rfl ?_
  refine wm_aload_n hC 1 (pc := 35) dL_law_35 rfl rfl ?_
  refine wm_ldc2 hC (3468160047831793467) kJ_L_158 (pc := 36) dL_law_36 ?_
  refine wm_iS hC cs_L_85 kc_L_puts (t_puts hO lw_b (by decide)) rfl (by decide) rfl (Nat.le_of_ble_eq_true rfl) (pc := 39) dL_law_39 (fun z39 w39 hw39 => ?_)
  obtain ⟨rfl, hO⟩ := hw39
  rw [lw_tx] at hO
  refine wm_if_ne hC 47 (pc := 42) dL_law_42 (by decide) (by omega) (fun _ => ?_) (fun h => absurd h (by decide))
  refine wm_iconst hC (pc := 47) dL_law_47 ?_
  refine wm_istore hC  (pc := 48) dL_law_48  (by decide) rfl ?_
  have lp50 : ∀ (n : Nat) (k a : Nat) (tr : List Pn) (P : Pn) (V : Int → Int) (w : mW) (x5 x6 x7 x8 x9 x10 : Option mV), n = 36 - k → k ≤ 36 → a = tr.length → a ≤ k → Ob w P (lst tr) lwT V → WasOK V tr → Wm l G K 12 11 (qI (fun z _ => z = 1)) 50 [some (mvR 40), some (mvR 0), some (mvR 31), some (mvI (a : Int)), some (mvI (k : Int)), x5, x6, x7, x8, x9, x10] [] w := by
    intro n
    induction n using Nat.strongRecOn with
    | _ n ih =>
    intro k a tr P V w x5 x6 x7 x8 x9 x10 hn hk ha hak hO hW
    refine wm_iload hC  (pc := 50) dL_law_50 rfl ?_
    refine wm_bipush hC (pc := 52) dL_law_52 (by decide) ?_
    refine wm_icmp_ge hC 295 (pc := 54) dL_law_54 (by decide) (by omega) (by omega) (fun h54 => ?_) (fun h54 => ?_)
    · refine wm_aload_n hC 2 (pc := 295) dL_law_295 rfl rfl ?_
      refine wm_iload_n hC 3 (pc := 296) dL_law_296 rfl rfl ?_
      refine wm_aload_n hC 1 (pc := 297) dL_law_297 rfl rfl ?_
      refine wm_jS hC cs_L_74 kc_L_seen (t_seen hO) rfl (by decide) rfl (Nat.le_of_ble_eq_true rfl) (pc := 298) dL_law_298 (fun z298 w298 hw298 => ?_)
      obtain ⟨e298, hO⟩ := hw298
      refine wm_lastoreG hC hg (by omega) (by omega) (pc := 301) dL_law_301 ?_
      have hO := hO.was (a : Int) z298
      have hV : WasOK (iup V (a : Int) z298) (tr ++ [P]) := by rw [ha]; exact hW.snoc e298
      refine wm_aload_n hC 1 (pc := 302) dL_law_302 rfl rfl ?_
      refine wm_iconst hC (pc := 303) dL_law_303 ?_
      refine wm_iV hC cv_L_49 kc_X8_read rfl rfl (t_readV hO (by decide) lw_f) rfl (by decide) rfl (Nat.le_of_ble_eq_true rfl) (pc := 304) dL_law_304 (fun z304 w304 hw304 => ?_)
      obtain ⟨e304, hO⟩ := hw304
      replace e304 := e304.trans lw_r
      subst e304
      refine wm_iconst hC (pc := 307) dL_law_307 ?_
      refine wm_icmp_ne hC 356 (pc := 308) dL_law_308 (by decide) (by omega) (by omega) (fun h => absurd h (by decide)) (fun _ => ?_)
      refine wm_aload_n hC 1 (pc := 311) dL_law_311 rfl rfl ?_
      refine wm_iconst hC (pc := 312) dL_law_312 ?_
      refine wm_bipush hC (pc := 313) dL_law_313 (by decide) ?_
      refine wm_iconst hC (pc := 315) dL_law_315 ?_
      refine wm_iV hC cv_L_13 kc_X8_stateOf rfl rfl (t_stateOfV hO (by decide)) rfl (by decide) rfl (Nat.le_of_ble_eq_true rfl) (pc := 316) dL_law_316 (fun z316 w316 hw316 => ?_)
      obtain ⟨e316, hO⟩ := hw316
      replace e316 := e316.trans (lw_s P)
      subst e316
      refine wm_iconst hC (pc := 319) dL_law_319 ?_
      refine wm_icmp_ne hC 356 (pc := 320) dL_law_320 (by decide) (by omega) (by omega) (fun h => absurd h (by decide)) (fun _ => ?_)
      refine wm_aload_n hC 1 (pc := 323) dL_law_323 rfl rfl ?_
      refine wm_iconst hC (pc := 324) dL_law_324 ?_
      refine wm_iconst hC (pc := 325) dL_law_325 ?_
      refine wm_iconst hC (pc := 326) dL_law_326 ?_
      refine wm_iV hC cv_L_26 kc_X8_kind rfl rfl (t_kindV hO (by decide)) rfl (by decide) rfl (Nat.le_of_ble_eq_true rfl) (pc := 327) dL_law_327 (fun z327 w327 hw327 => ?_)
      obtain ⟨e327, hO⟩ := hw327
      replace e327 := e327.trans (lw_k P)
      subst e327
      refine wm_iconst hC (pc := 330) dL_law_330 ?_
      refine wm_icmp_ne hC 356 (pc := 331) dL_law_331 (by decide) (by omega) (by omega) (fun h => absurd h (by decide)) (fun _ => ?_)
      refine wm_aload_n hC 1 (pc := 334) dL_law_334 rfl rfl ?_
      refine wm_iS hC cs_L_140 kc_L_refused (t_refused hO) rfl (by decide) rfl (Nat.le_of_ble_eq_true rfl) (pc := 335) dL_law_335 (fun z335 w335 hw335 => ?_)
      obtain ⟨rfl, hO⟩ := hw335
      rw [push_lst, push_lst, lst_snoc] at hO
      refine wm_if_eq hC 356 (pc := 338) dL_law_338 (by decide) (by omega) (fun h => absurd h (by decide)) (fun _ => ?_)
      refine wm_aload_n hC 1 (pc := 341) dL_law_341 rfl rfl ?_
      refine wm_iV hC cv_L_130 kc_X8_undo rfl rfl (t_undoV hO rfl) rfl (by decide) rfl (Nat.le_of_ble_eq_true rfl) (pc := 342) dL_law_342 (fun z342 w342 hw342 => ?_)
      obtain ⟨e342, hO⟩ := hw342
      rw [List.length_drop, List.length_append, List.length_singleton] at e342
      rw [List.length_append, List.length_singleton, List.drop_append_of_le_length (by omega), show tr.length + 1 - 3 = tr.length - 2 by omega] at hO
      refine wm_iconst hC (pc := 345) dL_law_345 ?_
      refine wm_icmp_lt hC 356 (pc := 346) dL_law_346 (by decide) (by omega) (by omega) (fun h346 => ?_) (fun h346 => ?_)
      · exact absurd h346 (by omega)
      · refine wm_aload_n hC 1 (pc := 349) dL_law_349 rfl rfl ?_
        refine wm_iV hC cv_L_130 kc_X8_undo rfl rfl (t_undoV hO rfl) rfl (by decide) rfl (Nat.le_of_ble_eq_true rfl) (pc := 350) dL_law_350 (fun z350 w350 hw350 => ?_)
        obtain ⟨e350, hO⟩ := hw350
        rw [List.length_drop] at e350
        refine wm_if_ge hC 358 (pc := 353) dL_law_353 (by decide) (by omega) (fun h353 => ?_) (fun h353 => ?_)
        · refine wm_iconst hC (pc := 358) dL_law_358 ?_
          refine wm_istore hC  (pc := 359) dL_law_359  (by decide) rfl ?_
          have lp361 : ∀ (n : Nat) (j : Nat) (X : Pn) (Hs : List Pn) (w : mW), n = Hs.length → Ob w X Hs lwT (iup V (a : Int) z298) → Bk (tr ++ [P]) Hs X j tr.length → Wm l G K 12 11 (qI (fun z _ => z = 1)) 361 [some (mvR 40), some (mvR 0), some (mvR 31), some (mvI (a : Int)), some (mvI (j : Int)), x5, x6, x7, x8, x9, x10] [] w := by
            intro n
            induction n using Nat.strongRecOn with
            | _ n ih =>
            intro j X Hs w hn2 hO hB
            refine wm_aload_n hC 1 (pc := 361) dL_law_361 rfl rfl ?_
            refine wm_iconst hC (pc := 362) dL_law_362 ?_
            refine wm_iV hC cv_L_22 kc_X8_count rfl rfl (t_count hO (by omega)) rfl (by decide) rfl (Nat.le_of_ble_eq_true rfl) (pc := 363) dL_law_363 (fun z363 w363 hw363 => ?_)
            obtain ⟨e363, hO⟩ := hw363
            have e363 : z363 = (Hs.length : Int) := e363
            have hb1 := hB.1
            refine wm_if_le hC 404 (pc := 366) dL_law_366 (by decide) (by omega) (fun h366 => ?_) (fun h366 => ?_)
            · obtain rfl : Hs = [] := List.eq_nil_of_length_eq_zero (by omega)
              refine wm_aload_n hC 1 (pc := 404) dL_law_404 rfl rfl ?_
              refine wm_iV hC cv_L_130 kc_X8_undo rfl rfl (t_undoN hO rfl) rfl (by decide) rfl (Nat.le_of_ble_eq_true rfl) (pc := 405) dL_law_405 (fun z405 w405 hw405 => ?_)
              obtain ⟨rfl, hO⟩ := hw405
              refine wm_ldc hC (-1000002) kI_L_89 (pc := 408) dL_law_408 ?_
              refine wm_icmp_ne hC 443 (pc := 410) dL_law_410 (by decide) (by omega) (by omega) (fun h => absurd h (by decide)) (fun _ => ?_)
              refine wm_aload_n hC 1 (pc := 413) dL_law_413 rfl rfl ?_
              refine wm_iconst hC (pc := 414) dL_law_414 ?_
              refine wm_iV hC cv_L_22 kc_X8_count rfl rfl (t_count hO (by omega)) rfl (by decide) rfl (Nat.le_of_ble_eq_true rfl) (pc := 415) dL_law_415 (fun z415 w415 hw415 => ?_)
              obtain ⟨e415, hO⟩ := hw415
              have e415 : z415 = 8 := e415
              subst e415
              refine wm_bipush hC (pc := 418) dL_law_418 (by decide) ?_
              refine wm_icmp_ne hC 443 (pc := 420) dL_law_420 (by decide) (by omega) (by omega) (fun h => absurd h (by decide)) (fun _ => ?_)
              refine wm_aload_n hC 1 (pc := 423) dL_law_423 rfl rfl ?_
              refine wm_iV hC cv_L_167 kc_X8_clearText rfl rfl (t_clearText hO) rfl (by decide) rfl (Nat.le_of_ble_eq_true rfl) (pc := 424) dL_law_424 (fun z424 w424 hw424 => ?_)
              obtain ⟨e424, hO⟩ := hw424
              have e424 : z424 = 8 := e424
              subst e424
              refine wm_bipush hC (pc := 427) dL_law_427 (by decide) ?_
              refine wm_icmp_ne hC 443 (pc := 429) dL_law_429 (by decide) (by omega) (by omega) (fun h => absurd h (by decide)) (fun _ => ?_)
              refine wm_aload_n hC 1 (pc := 432) dL_law_432 rfl rfl ?_
              refine wm_iV hC cv_L_167 kc_X8_clearText rfl rfl (t_clearText hO) rfl (by decide) rfl (Nat.le_of_ble_eq_true rfl) (pc := 433) dL_law_433 (fun z433 w433 hw433 => ?_)
              obtain ⟨e433, hO⟩ := hw433
              have e433 : z433 = 0 := e433
              subst e433
              refine wm_if_ne hC 443 (pc := 436) dL_law_436 (by decide) (by omega) (fun h => absurd h (by decide)) (fun _ => ?_)
              refine wm_iconst hC (pc := 439) dL_law_439 ?_
              refine wm_goto hC 444 (pc := 440) dL_law_440 (by decide) ?_
              refine wm_zretI hC (pc := 444) dL_law_444 (by decide) ?_
              rfl
            · obtain ⟨H0, Y, rfl⟩ := snoc_of (l := Hs) (by omega)
              rw [List.length_append, List.length_singleton] at hb1
              have hbn := hB.at.2
              refine wm_iload hC  (pc := 369) dL_law_369 rfl ?_
              refine wm_iconst hC (pc := 371) dL_law_371 ?_
              refine wm_icmp_gt hC 396 (pc := 372) dL_law_372 (by decide) (by omega) (by omega) (fun h372 => ?_) (fun h372 => ?_)
              · exact absurd h372 (by omega)
              · refine wm_aload_n hC 1 (pc := 375) dL_law_375 rfl rfl ?_
                refine wm_jS hC cs_L_74 kc_L_seen (t_seen hO) rfl (by decide) rfl (Nat.le_of_ble_eq_true rfl) (pc := 376) dL_law_376 (fun z376 w376 hw376 => ?_)
                obtain ⟨e376, hO⟩ := hw376
                refine wm_aload_n hC 2 (pc := 379) dL_law_379 rfl rfl ?_
                refine wm_iload_n hC 3 (pc := 380) dL_law_380 rfl rfl ?_
                refine wm_iload hC  (pc := 381) dL_law_381 rfl ?_
                refine wm_isub hC (pc := 383) dL_law_383 ?_
                refine wm_laloadG hC hg (by omega) (by omega) (pc := 384) dL_law_384 ?_
                refine wm_lcmp_eq hC (pc := 385) dL_law_385 (by rw [hO.2.2.2.2.2.2.2.2, show (a : Int) - (j : Int) = ((tr.length - j : Nat) : Int) by have := hB.at.2; omega, hV _ _ hB.at.1]; exact e376) ?_
                refine wm_if_ne hC 396 (pc := 386) dL_law_386 (by decide) (by omega) (fun h => absurd h (by decide)) (fun _ => ?_)
                refine wm_aload_n hC 1 (pc := 389) dL_law_389 rfl rfl ?_
                refine wm_iV hC cv_L_130 kc_X8_undo rfl rfl (t_undoV hO rfl) rfl (by decide) rfl (Nat.le_of_ble_eq_true rfl) (pc := 390) dL_law_390 (fun z390 w390 hw390 => ?_)
                obtain ⟨e390, hO⟩ := hw390
                refine wm_if_ge hC 398 (pc := 393) dL_law_393 (by decide) (by omega) (fun h393 => ?_) (fun h393 => ?_)
                · refine wm_iinc hC (pc := 398) dL_law_398 rfl rfl (by decide) rfl ?_
                  refine wm_goto hC 361 (pc := 401) dL_law_401 (by decide) ?_
                  exact ih _ (by rw [List.length_append, List.length_singleton] at hn2; omega) (j + 1) Y H0 _ rfl hO hB.pop
                · exact absurd h393 (by omega)
          exact lp361 _ 0 P (tr.drop (tr.length - 2)) _ rfl hO (Bk.start tr P)
        · exact absurd h353 (by omega)
    · refine wm_aload_n hC 0 (pc := 57) dL_law_57 rfl rfl ?_
      refine wm_iload hC  (pc := 58) dL_law_58 rfl ?_
      refine wm_callE hC hX cs_L_160 kc_L_drawn (t_drawn hL (by omega)) rfl (by decide) rfl (Nat.le_of_ble_eq_true rfl) (pc := 60) dL_law_60 (fun r60 w60 hw60 => ?_)
      obtain ⟨z60, rfl, hz60, rfl⟩ := hw60
      refine wm_show (st' := [mvI z60]) rfl rfl rfl rfl ?_
      refine wm_istore hC  (pc := 63) dL_law_63  (by decide) rfl ?_
      refine wm_iload hC  (pc := 65) dL_law_65 rfl ?_
      refine wm_bipush hC (pc := 67) dL_law_67 (by decide) ?_
      refine wm_iS hC cs_L_164 kc_L_part (t_part (by omega) (by omega)) rfl (by decide) rfl (Nat.le_of_ble_eq_true rfl) (pc := 69) dL_law_69 (fun z69 w69 hw69 => ?_)
      obtain ⟨hz69, rfl⟩ := hw69
      refine wm_istore hC  (pc := 72) dL_law_72  (by decide) rfl ?_
      refine wm_iload hC  (pc := 74) dL_law_74 rfl ?_
      refine wm_iconst hC (pc := 76) dL_law_76 ?_
      refine wm_ishrA hC (pc := 77) dL_law_77 (fun v77 hv77 => ?_)
      refine wm_iconst hC (pc := 78) dL_law_78 ?_
      refine wm_iS hC cs_L_164 kc_L_part (t_part (by omega) (by omega)) rfl (by decide) rfl (Nat.le_of_ble_eq_true rfl) (pc := 79) dL_law_79 (fun z79 w79 hw79 => ?_)
      obtain ⟨hz79, rfl⟩ := hw79
      refine wm_istore hC  (pc := 82) dL_law_82  (by decide) rfl ?_
      refine wm_iload hC  (pc := 84) dL_law_84 rfl ?_
      refine wm_bipush hC (pc := 86) dL_law_86 (by decide) ?_
      refine wm_ishrA hC (pc := 88) dL_law_88 (fun v88 hv88 => ?_)
      refine wm_bipush hC (pc := 89) dL_law_89 (by decide) ?_
      refine wm_iS hC cs_L_164 kc_L_part (t_part (by omega) (by omega)) rfl (by decide) rfl (Nat.le_of_ble_eq_true rfl) (pc := 91) dL_law_91 (fun z91 w91 hw91 => ?_)
      obtain ⟨hz91, rfl⟩ := hw91
      refine wm_istore hC  (pc := 94) dL_law_94  (by decide) rfl ?_
      refine wm_aload_n hC 2 (pc := 96) dL_law_96 rfl rfl ?_
      refine wm_iload_n hC 3 (pc := 97) dL_law_97 rfl rfl ?_
      refine wm_aload_n hC 1 (pc := 98) dL_law_98 rfl rfl ?_
      refine wm_jS hC cs_L_74 kc_L_seen (t_seen hO) rfl (by decide) rfl (Nat.le_of_ble_eq_true rfl) (pc := 99) dL_law_99 (fun z99 w99 hw99 => ?_)
      obtain ⟨e99, hO⟩ := hw99
      refine wm_lastoreG hC hg (by omega) (by omega) (pc := 102) dL_law_102 ?_
      have hO := hO.was (a : Int) z99
      refine wm_aload_n hC 1 (pc := 103) dL_law_103 rfl rfl ?_
      refine wm_iconst hC (pc := 104) dL_law_104 ?_
      refine wm_iV hC cv_L_22 kc_X8_count rfl rfl (t_count hO (by omega)) rfl (by decide) rfl (Nat.le_of_ble_eq_true rfl) (pc := 105) dL_law_105 (fun z105 w105 hw105 => ?_)
      obtain ⟨e105, hO⟩ := hw105
      have e105 : z105 = ((lst tr).length : Int) := e105
      have l105 := lst_len tr
      refine wm_istore hC  (pc := 108) dL_law_108  (by decide) rfl ?_
      refine wm_iload hC  (pc := 110) dL_law_110 rfl ?_
      refine wm_if_ne hC 135 (pc := 112) dL_law_112 (by decide) (by omega) (fun h112 => ?_) (fun h112 => ?_)
      · refine wm_iload hC  (pc := 135) dL_law_135 rfl ?_
        refine wm_iconst hC (pc := 137) dL_law_137 ?_
        refine wm_icmp_ge hC 172 (pc := 138) dL_law_138 (by decide) (by omega) (by omega) (fun h138 => ?_) (fun h138 => ?_)
        · refine wm_iload hC  (pc := 172) dL_law_172 rfl ?_
          refine wm_iconst hC (pc := 174) dL_law_174 ?_
          refine wm_icmp_ne hC 199 (pc := 175) dL_law_175 (by decide) (by omega) (by omega) (fun h175 => ?_) (fun h175 => ?_)
          · refine wm_iload hC  (pc := 199) dL_law_199 rfl ?_
            refine wm_bipush hC (pc := 201) dL_law_201 (by decide) ?_
            refine wm_icmp_ne hC 224 (pc := 203) dL_law_203 (by decide) (by omega) (by omega) (fun h203 => ?_) (fun h203 => ?_)
            · refine wm_iload hC  (pc := 224) dL_law_224 rfl ?_
              refine wm_bipush hC (pc := 226) dL_law_226 (by decide) ?_
              refine wm_icmp_ne hC 240 (pc := 228) dL_law_228 (by decide) (by omega) (by omega) (fun h228 => ?_) (fun h228 => ?_)
              · refine wm_aload_n hC 1 (pc := 240) dL_law_240 rfl rfl ?_
                refine wm_iload hC  (pc := 241) dL_law_241 rfl ?_
                refine wm_iV hC cv_L_49 kc_X8_read rfl rfl (t_readA hO (by omega)) rfl (by decide) rfl (Nat.le_of_ble_eq_true rfl) (pc := 243) dL_law_243 (fun z243 w243 hw243 => ?_)
                have hA := hw243
                refine wm_istore hC  (pc := 246) dL_law_246  (by decide) rfl ?_
                refine wm_iload hC  (pc := 248) dL_law_248 rfl ?_
                refine wm_if_ge hC 276 (pc := 250) dL_law_250 (by decide) (by rcases hA with ⟨q, -⟩ | ⟨q, -⟩ <;> omega) (fun h250 => ?_) (fun h250 => ?_)
                · obtain ⟨-, P2, hO⟩ := hA.resolve_left (fun q => by have := q.1; omega)
                  refine wm_iload_n hC 3 (pc := 276) dL_law_276 rfl rfl ?_
                  refine wm_iload hC  (pc := 277) dL_law_277 rfl ?_
                  refine wm_if_ge hC 286 (pc := 279) dL_law_279 (by decide) (by rcases hA with ⟨q, -⟩ | ⟨q, -⟩ <;> omega) (fun _ => ?_) (fun h => absurd h (by omega))
                  refine wm_iconst hC (pc := 286) dL_law_286 ?_
                  refine wm_iadd hC (pc := 287) dL_law_287 ?_
                  refine wm_eqI (y := (((a + 1 : Nat) : Int) : Int)) (by omega) ?_
                  refine wm_istore_n hC 3 (pc := 288) dL_law_288 rfl (by decide) rfl ?_
                  refine wm_iinc hC (pc := 289) dL_law_289 rfl rfl (by decide) rfl ?_
                  refine wm_goto hC 50 (pc := 292) dL_law_292 (by decide) ?_
                  first | exact ih _ (by omega) (k + 1) (a + 1) (tr ++ [P]) P2 _ _ _ _ _ _ _ _ rfl (by omega) (by rw [List.length_append, ha]; rfl) (by omega) (by rw [← push_lst]; exact hO) (by rw [ha]; exact hW.snoc e99) | exact ih _ (by omega) (k + 1) a tr P _ _ _ _ _ _ _ _ rfl (by omega) ha (by omega) hO (by rw [ha]; exact hW.keep)
                · have hO := (hA.resolve_right (fun q => by have := q.1; omega)).2
                  refine wm_aload_n hC 1 (pc := 253) dL_law_253 rfl rfl ?_
                  refine wm_iconst hC (pc := 254) dL_law_254 ?_
                  refine wm_iV hC cv_L_22 kc_X8_count rfl rfl (t_count hO (by omega)) rfl (by decide) rfl (Nat.le_of_ble_eq_true rfl) (pc := 255) dL_law_255 (fun z255 w255 hw255 => ?_)
                  obtain ⟨e255, hO⟩ := hw255
                  have e255 : z255 = ((lst tr).length : Int) := e255
                  refine wm_iload hC  (pc := 258) dL_law_258 rfl ?_
                  refine wm_icmp_ne hC 274 (pc := 260) dL_law_260 (by decide) (by omega) (by omega) (fun h260 => ?_) (fun h260 => ?_)
                  · exact absurd (e255.trans e105.symm) h260
                  · refine wm_aload_n hC 1 (pc := 263) dL_law_263 rfl rfl ?_
                    refine wm_jS hC cs_L_74 kc_L_seen (t_seen hO) rfl (by decide) rfl (Nat.le_of_ble_eq_true rfl) (pc := 264) dL_law_264 (fun z264 w264 hw264 => ?_)
                    obtain ⟨e264, hO⟩ := hw264
                    refine wm_aload_n hC 2 (pc := 267) dL_law_267 rfl rfl ?_
                    refine wm_iload_n hC 3 (pc := 268) dL_law_268 rfl rfl ?_
                    refine wm_laloadG hC hg (by omega) (by omega) (pc := 269) dL_law_269 ?_
                    refine wm_lcmp_eq hC (pc := 270) dL_law_270 (by rw [hO.2.2.2.2.2.2.2.2, iup_at]; exact e264.trans e99.symm) ?_
                    refine wm_if_eq hC 276 (pc := 271) dL_law_271 (by decide) (by omega) (fun _ => ?_) (fun h => absurd h (by decide))
                    refine wm_iload_n hC 3 (pc := 276) dL_law_276 rfl rfl ?_
                    refine wm_iload hC  (pc := 277) dL_law_277 rfl ?_
                    refine wm_if_ge hC 286 (pc := 279) dL_law_279 (by decide) (by rcases hA with ⟨q, -⟩ | ⟨q, -⟩ <;> omega) (fun h => absurd h (by omega)) (fun _ => ?_)
                    refine wm_iconst hC (pc := 282) dL_law_282 ?_
                    refine wm_goto hC 287 (pc := 283) dL_law_283 (by decide) ?_
                    refine wm_iadd hC (pc := 287) dL_law_287 ?_
                    refine wm_eqI (y := (a : Int)) (by omega) ?_
                    refine wm_istore_n hC 3 (pc := 288) dL_law_288 rfl (by decide) rfl ?_
                    refine wm_iinc hC (pc := 289) dL_law_289 rfl rfl (by decide) rfl ?_
                    refine wm_goto hC 50 (pc := 292) dL_law_292 (by decide) ?_
                    first | exact ih _ (by omega) (k + 1) (a + 1) (tr ++ [P]) P2 _ _ _ _ _ _ _ _ rfl (by omega) (by rw [List.length_append, ha]; rfl) (by omega) (by rw [← push_lst]; exact hO) (by rw [ha]; exact hW.snoc e99) | exact ih _ (by omega) (k + 1) a tr P _ _ _ _ _ _ _ _ rfl (by omega) ha (by omega) hO (by rw [ha]; exact hW.keep)
              · refine wm_aload_n hC 1 (pc := 231) dL_law_231 rfl rfl ?_
                refine wm_iload hC  (pc := 232) dL_law_232 rfl ?_
                refine wm_iV hC cv_L_43 kc_X8_mirror rfl rfl (t_mirrorA hO (by omega)) rfl (by decide) rfl (Nat.le_of_ble_eq_true rfl) (pc := 234) dL_law_234 (fun z234 w234 hw234 => ?_)
                have hA := hw234
                refine wm_goto hC 246 (pc := 237) dL_law_237 (by decide) ?_
                refine wm_istore hC  (pc := 246) dL_law_246  (by decide) rfl ?_
                refine wm_iload hC  (pc := 248) dL_law_248 rfl ?_
                refine wm_if_ge hC 276 (pc := 250) dL_law_250 (by decide) (by rcases hA with ⟨q, -⟩ | ⟨q, -⟩ <;> omega) (fun h250 => ?_) (fun h250 => ?_)
                · obtain ⟨-, P2, hO⟩ := hA.resolve_left (fun q => by have := q.1; omega)
                  refine wm_iload_n hC 3 (pc := 276) dL_law_276 rfl rfl ?_
                  refine wm_iload hC  (pc := 277) dL_law_277 rfl ?_
                  refine wm_if_ge hC 286 (pc := 279) dL_law_279 (by decide) (by rcases hA with ⟨q, -⟩ | ⟨q, -⟩ <;> omega) (fun _ => ?_) (fun h => absurd h (by omega))
                  refine wm_iconst hC (pc := 286) dL_law_286 ?_
                  refine wm_iadd hC (pc := 287) dL_law_287 ?_
                  refine wm_eqI (y := (((a + 1 : Nat) : Int) : Int)) (by omega) ?_
                  refine wm_istore_n hC 3 (pc := 288) dL_law_288 rfl (by decide) rfl ?_
                  refine wm_iinc hC (pc := 289) dL_law_289 rfl rfl (by decide) rfl ?_
                  refine wm_goto hC 50 (pc := 292) dL_law_292 (by decide) ?_
                  first | exact ih _ (by omega) (k + 1) (a + 1) (tr ++ [P]) P2 _ _ _ _ _ _ _ _ rfl (by omega) (by rw [List.length_append, ha]; rfl) (by omega) (by rw [← push_lst]; exact hO) (by rw [ha]; exact hW.snoc e99) | exact ih _ (by omega) (k + 1) a tr P _ _ _ _ _ _ _ _ rfl (by omega) ha (by omega) hO (by rw [ha]; exact hW.keep)
                · have hO := (hA.resolve_right (fun q => by have := q.1; omega)).2
                  refine wm_aload_n hC 1 (pc := 253) dL_law_253 rfl rfl ?_
                  refine wm_iconst hC (pc := 254) dL_law_254 ?_
                  refine wm_iV hC cv_L_22 kc_X8_count rfl rfl (t_count hO (by omega)) rfl (by decide) rfl (Nat.le_of_ble_eq_true rfl) (pc := 255) dL_law_255 (fun z255 w255 hw255 => ?_)
                  obtain ⟨e255, hO⟩ := hw255
                  have e255 : z255 = ((lst tr).length : Int) := e255
                  refine wm_iload hC  (pc := 258) dL_law_258 rfl ?_
                  refine wm_icmp_ne hC 274 (pc := 260) dL_law_260 (by decide) (by omega) (by omega) (fun h260 => ?_) (fun h260 => ?_)
                  · exact absurd (e255.trans e105.symm) h260
                  · refine wm_aload_n hC 1 (pc := 263) dL_law_263 rfl rfl ?_
                    refine wm_jS hC cs_L_74 kc_L_seen (t_seen hO) rfl (by decide) rfl (Nat.le_of_ble_eq_true rfl) (pc := 264) dL_law_264 (fun z264 w264 hw264 => ?_)
                    obtain ⟨e264, hO⟩ := hw264
                    refine wm_aload_n hC 2 (pc := 267) dL_law_267 rfl rfl ?_
                    refine wm_iload_n hC 3 (pc := 268) dL_law_268 rfl rfl ?_
                    refine wm_laloadG hC hg (by omega) (by omega) (pc := 269) dL_law_269 ?_
                    refine wm_lcmp_eq hC (pc := 270) dL_law_270 (by rw [hO.2.2.2.2.2.2.2.2, iup_at]; exact e264.trans e99.symm) ?_
                    refine wm_if_eq hC 276 (pc := 271) dL_law_271 (by decide) (by omega) (fun _ => ?_) (fun h => absurd h (by decide))
                    refine wm_iload_n hC 3 (pc := 276) dL_law_276 rfl rfl ?_
                    refine wm_iload hC  (pc := 277) dL_law_277 rfl ?_
                    refine wm_if_ge hC 286 (pc := 279) dL_law_279 (by decide) (by rcases hA with ⟨q, -⟩ | ⟨q, -⟩ <;> omega) (fun h => absurd h (by omega)) (fun _ => ?_)
                    refine wm_iconst hC (pc := 282) dL_law_282 ?_
                    refine wm_goto hC 287 (pc := 283) dL_law_283 (by decide) ?_
                    refine wm_iadd hC (pc := 287) dL_law_287 ?_
                    refine wm_eqI (y := (a : Int)) (by omega) ?_
                    refine wm_istore_n hC 3 (pc := 288) dL_law_288 rfl (by decide) rfl ?_
                    refine wm_iinc hC (pc := 289) dL_law_289 rfl rfl (by decide) rfl ?_
                    refine wm_goto hC 50 (pc := 292) dL_law_292 (by decide) ?_
                    first | exact ih _ (by omega) (k + 1) (a + 1) (tr ++ [P]) P2 _ _ _ _ _ _ _ _ rfl (by omega) (by rw [List.length_append, ha]; rfl) (by omega) (by rw [← push_lst]; exact hO) (by rw [ha]; exact hW.snoc e99) | exact ih _ (by omega) (k + 1) a tr P _ _ _ _ _ _ _ _ rfl (by omega) ha (by omega) hO (by rw [ha]; exact hW.keep)
            · refine wm_aload_n hC 1 (pc := 206) dL_law_206 rfl rfl ?_
              refine wm_iload hC  (pc := 207) dL_law_207 rfl ?_
              refine wm_iload hC  (pc := 209) dL_law_209 rfl ?_
              refine wm_bipush hC (pc := 211) dL_law_211 (by decide) ?_
              refine wm_ishrA hC (pc := 213) dL_law_213 (fun v213 hv213 => ?_)
              refine wm_iconst hC (pc := 214) dL_law_214 ?_
              refine wm_iS hC cs_L_164 kc_L_part (t_part (by omega) (by omega)) rfl (by decide) rfl (Nat.le_of_ble_eq_true rfl) (pc := 215) dL_law_215 (fun z215 w215 hw215 => ?_)
              obtain ⟨hz215, rfl⟩ := hw215
              refine wm_iV hC cv_L_39 kc_X8_copy rfl rfl (t_copyA hO (by omega) (by omega)) rfl (by decide) rfl (Nat.le_of_ble_eq_true rfl) (pc := 218) dL_law_218 (fun z218 w218 hw218 => ?_)
              have hA := hw218
              refine wm_goto hC 246 (pc := 221) dL_law_221 (by decide) ?_
              refine wm_istore hC  (pc := 246) dL_law_246  (by decide) rfl ?_
              refine wm_iload hC  (pc := 248) dL_law_248 rfl ?_
              refine wm_if_ge hC 276 (pc := 250) dL_law_250 (by decide) (by rcases hA with ⟨q, -⟩ | ⟨q, -⟩ <;> omega) (fun h250 => ?_) (fun h250 => ?_)
              · obtain ⟨-, P2, hO⟩ := hA.resolve_left (fun q => by have := q.1; omega)
                refine wm_iload_n hC 3 (pc := 276) dL_law_276 rfl rfl ?_
                refine wm_iload hC  (pc := 277) dL_law_277 rfl ?_
                refine wm_if_ge hC 286 (pc := 279) dL_law_279 (by decide) (by rcases hA with ⟨q, -⟩ | ⟨q, -⟩ <;> omega) (fun _ => ?_) (fun h => absurd h (by omega))
                refine wm_iconst hC (pc := 286) dL_law_286 ?_
                refine wm_iadd hC (pc := 287) dL_law_287 ?_
                refine wm_eqI (y := (((a + 1 : Nat) : Int) : Int)) (by omega) ?_
                refine wm_istore_n hC 3 (pc := 288) dL_law_288 rfl (by decide) rfl ?_
                refine wm_iinc hC (pc := 289) dL_law_289 rfl rfl (by decide) rfl ?_
                refine wm_goto hC 50 (pc := 292) dL_law_292 (by decide) ?_
                first | exact ih _ (by omega) (k + 1) (a + 1) (tr ++ [P]) P2 _ _ _ _ _ _ _ _ rfl (by omega) (by rw [List.length_append, ha]; rfl) (by omega) (by rw [← push_lst]; exact hO) (by rw [ha]; exact hW.snoc e99) | exact ih _ (by omega) (k + 1) a tr P _ _ _ _ _ _ _ _ rfl (by omega) ha (by omega) hO (by rw [ha]; exact hW.keep)
              · have hO := (hA.resolve_right (fun q => by have := q.1; omega)).2
                refine wm_aload_n hC 1 (pc := 253) dL_law_253 rfl rfl ?_
                refine wm_iconst hC (pc := 254) dL_law_254 ?_
                refine wm_iV hC cv_L_22 kc_X8_count rfl rfl (t_count hO (by omega)) rfl (by decide) rfl (Nat.le_of_ble_eq_true rfl) (pc := 255) dL_law_255 (fun z255 w255 hw255 => ?_)
                obtain ⟨e255, hO⟩ := hw255
                have e255 : z255 = ((lst tr).length : Int) := e255
                refine wm_iload hC  (pc := 258) dL_law_258 rfl ?_
                refine wm_icmp_ne hC 274 (pc := 260) dL_law_260 (by decide) (by omega) (by omega) (fun h260 => ?_) (fun h260 => ?_)
                · exact absurd (e255.trans e105.symm) h260
                · refine wm_aload_n hC 1 (pc := 263) dL_law_263 rfl rfl ?_
                  refine wm_jS hC cs_L_74 kc_L_seen (t_seen hO) rfl (by decide) rfl (Nat.le_of_ble_eq_true rfl) (pc := 264) dL_law_264 (fun z264 w264 hw264 => ?_)
                  obtain ⟨e264, hO⟩ := hw264
                  refine wm_aload_n hC 2 (pc := 267) dL_law_267 rfl rfl ?_
                  refine wm_iload_n hC 3 (pc := 268) dL_law_268 rfl rfl ?_
                  refine wm_laloadG hC hg (by omega) (by omega) (pc := 269) dL_law_269 ?_
                  refine wm_lcmp_eq hC (pc := 270) dL_law_270 (by rw [hO.2.2.2.2.2.2.2.2, iup_at]; exact e264.trans e99.symm) ?_
                  refine wm_if_eq hC 276 (pc := 271) dL_law_271 (by decide) (by omega) (fun _ => ?_) (fun h => absurd h (by decide))
                  refine wm_iload_n hC 3 (pc := 276) dL_law_276 rfl rfl ?_
                  refine wm_iload hC  (pc := 277) dL_law_277 rfl ?_
                  refine wm_if_ge hC 286 (pc := 279) dL_law_279 (by decide) (by rcases hA with ⟨q, -⟩ | ⟨q, -⟩ <;> omega) (fun h => absurd h (by omega)) (fun _ => ?_)
                  refine wm_iconst hC (pc := 282) dL_law_282 ?_
                  refine wm_goto hC 287 (pc := 283) dL_law_283 (by decide) ?_
                  refine wm_iadd hC (pc := 287) dL_law_287 ?_
                  refine wm_eqI (y := (a : Int)) (by omega) ?_
                  refine wm_istore_n hC 3 (pc := 288) dL_law_288 rfl (by decide) rfl ?_
                  refine wm_iinc hC (pc := 289) dL_law_289 rfl rfl (by decide) rfl ?_
                  refine wm_goto hC 50 (pc := 292) dL_law_292 (by decide) ?_
                  first | exact ih _ (by omega) (k + 1) (a + 1) (tr ++ [P]) P2 _ _ _ _ _ _ _ _ rfl (by omega) (by rw [List.length_append, ha]; rfl) (by omega) (by rw [← push_lst]; exact hO) (by rw [ha]; exact hW.snoc e99) | exact ih _ (by omega) (k + 1) a tr P _ _ _ _ _ _ _ _ rfl (by omega) ha (by omega) hO (by rw [ha]; exact hW.keep)
          · refine wm_aload_n hC 1 (pc := 178) dL_law_178 rfl rfl ?_
            refine wm_iload hC  (pc := 179) dL_law_179 rfl ?_
            refine wm_iload hC  (pc := 181) dL_law_181 rfl ?_
            refine wm_iload hC  (pc := 183) dL_law_183 rfl ?_
            refine wm_bipush hC (pc := 185) dL_law_185 (by decide) ?_
            refine wm_ishrA hC (pc := 187) dL_law_187 (fun v187 hv187 => ?_)
            refine wm_bipush hC (pc := 188) dL_law_188 (by decide) ?_
            refine wm_iS hC cs_L_164 kc_L_part (t_part (by omega) (by omega)) rfl (by decide) rfl (Nat.le_of_ble_eq_true rfl) (pc := 190) dL_law_190 (fun z190 w190 hw190 => ?_)
            obtain ⟨hz190, rfl⟩ := hw190
            refine wm_iV hC cv_L_36 kc_X8_erase rfl rfl (t_eraseA hO (by omega) (by omega) (by omega)) rfl (by decide) rfl (Nat.le_of_ble_eq_true rfl) (pc := 193) dL_law_193 (fun z193 w193 hw193 => ?_)
            have hA := hw193
            refine wm_goto hC 246 (pc := 196) dL_law_196 (by decide) ?_
            refine wm_istore hC  (pc := 246) dL_law_246  (by decide) rfl ?_
            refine wm_iload hC  (pc := 248) dL_law_248 rfl ?_
            refine wm_if_ge hC 276 (pc := 250) dL_law_250 (by decide) (by rcases hA with ⟨q, -⟩ | ⟨q, -⟩ <;> omega) (fun h250 => ?_) (fun h250 => ?_)
            · obtain ⟨-, P2, hO⟩ := hA.resolve_left (fun q => by have := q.1; omega)
              refine wm_iload_n hC 3 (pc := 276) dL_law_276 rfl rfl ?_
              refine wm_iload hC  (pc := 277) dL_law_277 rfl ?_
              refine wm_if_ge hC 286 (pc := 279) dL_law_279 (by decide) (by rcases hA with ⟨q, -⟩ | ⟨q, -⟩ <;> omega) (fun _ => ?_) (fun h => absurd h (by omega))
              refine wm_iconst hC (pc := 286) dL_law_286 ?_
              refine wm_iadd hC (pc := 287) dL_law_287 ?_
              refine wm_eqI (y := (((a + 1 : Nat) : Int) : Int)) (by omega) ?_
              refine wm_istore_n hC 3 (pc := 288) dL_law_288 rfl (by decide) rfl ?_
              refine wm_iinc hC (pc := 289) dL_law_289 rfl rfl (by decide) rfl ?_
              refine wm_goto hC 50 (pc := 292) dL_law_292 (by decide) ?_
              first | exact ih _ (by omega) (k + 1) (a + 1) (tr ++ [P]) P2 _ _ _ _ _ _ _ _ rfl (by omega) (by rw [List.length_append, ha]; rfl) (by omega) (by rw [← push_lst]; exact hO) (by rw [ha]; exact hW.snoc e99) | exact ih _ (by omega) (k + 1) a tr P _ _ _ _ _ _ _ _ rfl (by omega) ha (by omega) hO (by rw [ha]; exact hW.keep)
            · have hO := (hA.resolve_right (fun q => by have := q.1; omega)).2
              refine wm_aload_n hC 1 (pc := 253) dL_law_253 rfl rfl ?_
              refine wm_iconst hC (pc := 254) dL_law_254 ?_
              refine wm_iV hC cv_L_22 kc_X8_count rfl rfl (t_count hO (by omega)) rfl (by decide) rfl (Nat.le_of_ble_eq_true rfl) (pc := 255) dL_law_255 (fun z255 w255 hw255 => ?_)
              obtain ⟨e255, hO⟩ := hw255
              have e255 : z255 = ((lst tr).length : Int) := e255
              refine wm_iload hC  (pc := 258) dL_law_258 rfl ?_
              refine wm_icmp_ne hC 274 (pc := 260) dL_law_260 (by decide) (by omega) (by omega) (fun h260 => ?_) (fun h260 => ?_)
              · exact absurd (e255.trans e105.symm) h260
              · refine wm_aload_n hC 1 (pc := 263) dL_law_263 rfl rfl ?_
                refine wm_jS hC cs_L_74 kc_L_seen (t_seen hO) rfl (by decide) rfl (Nat.le_of_ble_eq_true rfl) (pc := 264) dL_law_264 (fun z264 w264 hw264 => ?_)
                obtain ⟨e264, hO⟩ := hw264
                refine wm_aload_n hC 2 (pc := 267) dL_law_267 rfl rfl ?_
                refine wm_iload_n hC 3 (pc := 268) dL_law_268 rfl rfl ?_
                refine wm_laloadG hC hg (by omega) (by omega) (pc := 269) dL_law_269 ?_
                refine wm_lcmp_eq hC (pc := 270) dL_law_270 (by rw [hO.2.2.2.2.2.2.2.2, iup_at]; exact e264.trans e99.symm) ?_
                refine wm_if_eq hC 276 (pc := 271) dL_law_271 (by decide) (by omega) (fun _ => ?_) (fun h => absurd h (by decide))
                refine wm_iload_n hC 3 (pc := 276) dL_law_276 rfl rfl ?_
                refine wm_iload hC  (pc := 277) dL_law_277 rfl ?_
                refine wm_if_ge hC 286 (pc := 279) dL_law_279 (by decide) (by rcases hA with ⟨q, -⟩ | ⟨q, -⟩ <;> omega) (fun h => absurd h (by omega)) (fun _ => ?_)
                refine wm_iconst hC (pc := 282) dL_law_282 ?_
                refine wm_goto hC 287 (pc := 283) dL_law_283 (by decide) ?_
                refine wm_iadd hC (pc := 287) dL_law_287 ?_
                refine wm_eqI (y := (a : Int)) (by omega) ?_
                refine wm_istore_n hC 3 (pc := 288) dL_law_288 rfl (by decide) rfl ?_
                refine wm_iinc hC (pc := 289) dL_law_289 rfl rfl (by decide) rfl ?_
                refine wm_goto hC 50 (pc := 292) dL_law_292 (by decide) ?_
                first | exact ih _ (by omega) (k + 1) (a + 1) (tr ++ [P]) P2 _ _ _ _ _ _ _ _ rfl (by omega) (by rw [List.length_append, ha]; rfl) (by omega) (by rw [← push_lst]; exact hO) (by rw [ha]; exact hW.snoc e99) | exact ih _ (by omega) (k + 1) a tr P _ _ _ _ _ _ _ _ rfl (by omega) ha (by omega) hO (by rw [ha]; exact hW.keep)
        · refine wm_aload_n hC 1 (pc := 141) dL_law_141 rfl rfl ?_
          refine wm_iload hC  (pc := 142) dL_law_142 rfl ?_
          refine wm_iload hC  (pc := 144) dL_law_144 rfl ?_
          refine wm_iload hC  (pc := 146) dL_law_146 rfl ?_
          refine wm_bipush hC (pc := 148) dL_law_148 (by decide) ?_
          refine wm_ishrA hC (pc := 150) dL_law_150 (fun v150 hv150 => ?_)
          refine wm_bipush hC (pc := 151) dL_law_151 (by decide) ?_
          refine wm_iS hC cs_L_164 kc_L_part (t_part (by omega) (by omega)) rfl (by decide) rfl (Nat.le_of_ble_eq_true rfl) (pc := 153) dL_law_153 (fun z153 w153 hw153 => ?_)
          obtain ⟨hz153, rfl⟩ := hw153
          refine wm_iload hC  (pc := 156) dL_law_156 rfl ?_
          refine wm_bipush hC (pc := 158) dL_law_158 (by decide) ?_
          refine wm_ishrA hC (pc := 160) dL_law_160 (fun v160 hv160 => ?_)
          refine wm_bipush hC (pc := 161) dL_law_161 (by decide) ?_
          refine wm_iS hC cs_L_164 kc_L_part (t_part (by omega) (by omega)) rfl (by decide) rfl (Nat.le_of_ble_eq_true rfl) (pc := 163) dL_law_163 (fun z163 w163 hw163 => ?_)
          obtain ⟨hz163, rfl⟩ := hw163
          refine wm_iV hC cv_L_32 kc_X8_arrow rfl rfl (t_arrowA hO (by omega) (by omega) (by omega) (by omega)) rfl (by decide) rfl (Nat.le_of_ble_eq_true rfl) (pc := 166) dL_law_166 (fun z166 w166 hw166 => ?_)
          have hA := hw166
          refine wm_goto hC 246 (pc := 169) dL_law_169 (by decide) ?_
          refine wm_istore hC  (pc := 246) dL_law_246  (by decide) rfl ?_
          refine wm_iload hC  (pc := 248) dL_law_248 rfl ?_
          refine wm_if_ge hC 276 (pc := 250) dL_law_250 (by decide) (by rcases hA with ⟨q, -⟩ | ⟨q, -⟩ <;> omega) (fun h250 => ?_) (fun h250 => ?_)
          · obtain ⟨-, P2, hO⟩ := hA.resolve_left (fun q => by have := q.1; omega)
            refine wm_iload_n hC 3 (pc := 276) dL_law_276 rfl rfl ?_
            refine wm_iload hC  (pc := 277) dL_law_277 rfl ?_
            refine wm_if_ge hC 286 (pc := 279) dL_law_279 (by decide) (by rcases hA with ⟨q, -⟩ | ⟨q, -⟩ <;> omega) (fun _ => ?_) (fun h => absurd h (by omega))
            refine wm_iconst hC (pc := 286) dL_law_286 ?_
            refine wm_iadd hC (pc := 287) dL_law_287 ?_
            refine wm_eqI (y := (((a + 1 : Nat) : Int) : Int)) (by omega) ?_
            refine wm_istore_n hC 3 (pc := 288) dL_law_288 rfl (by decide) rfl ?_
            refine wm_iinc hC (pc := 289) dL_law_289 rfl rfl (by decide) rfl ?_
            refine wm_goto hC 50 (pc := 292) dL_law_292 (by decide) ?_
            first | exact ih _ (by omega) (k + 1) (a + 1) (tr ++ [P]) P2 _ _ _ _ _ _ _ _ rfl (by omega) (by rw [List.length_append, ha]; rfl) (by omega) (by rw [← push_lst]; exact hO) (by rw [ha]; exact hW.snoc e99) | exact ih _ (by omega) (k + 1) a tr P _ _ _ _ _ _ _ _ rfl (by omega) ha (by omega) hO (by rw [ha]; exact hW.keep)
          · have hO := (hA.resolve_right (fun q => by have := q.1; omega)).2
            refine wm_aload_n hC 1 (pc := 253) dL_law_253 rfl rfl ?_
            refine wm_iconst hC (pc := 254) dL_law_254 ?_
            refine wm_iV hC cv_L_22 kc_X8_count rfl rfl (t_count hO (by omega)) rfl (by decide) rfl (Nat.le_of_ble_eq_true rfl) (pc := 255) dL_law_255 (fun z255 w255 hw255 => ?_)
            obtain ⟨e255, hO⟩ := hw255
            have e255 : z255 = ((lst tr).length : Int) := e255
            refine wm_iload hC  (pc := 258) dL_law_258 rfl ?_
            refine wm_icmp_ne hC 274 (pc := 260) dL_law_260 (by decide) (by omega) (by omega) (fun h260 => ?_) (fun h260 => ?_)
            · exact absurd (e255.trans e105.symm) h260
            · refine wm_aload_n hC 1 (pc := 263) dL_law_263 rfl rfl ?_
              refine wm_jS hC cs_L_74 kc_L_seen (t_seen hO) rfl (by decide) rfl (Nat.le_of_ble_eq_true rfl) (pc := 264) dL_law_264 (fun z264 w264 hw264 => ?_)
              obtain ⟨e264, hO⟩ := hw264
              refine wm_aload_n hC 2 (pc := 267) dL_law_267 rfl rfl ?_
              refine wm_iload_n hC 3 (pc := 268) dL_law_268 rfl rfl ?_
              refine wm_laloadG hC hg (by omega) (by omega) (pc := 269) dL_law_269 ?_
              refine wm_lcmp_eq hC (pc := 270) dL_law_270 (by rw [hO.2.2.2.2.2.2.2.2, iup_at]; exact e264.trans e99.symm) ?_
              refine wm_if_eq hC 276 (pc := 271) dL_law_271 (by decide) (by omega) (fun _ => ?_) (fun h => absurd h (by decide))
              refine wm_iload_n hC 3 (pc := 276) dL_law_276 rfl rfl ?_
              refine wm_iload hC  (pc := 277) dL_law_277 rfl ?_
              refine wm_if_ge hC 286 (pc := 279) dL_law_279 (by decide) (by rcases hA with ⟨q, -⟩ | ⟨q, -⟩ <;> omega) (fun h => absurd h (by omega)) (fun _ => ?_)
              refine wm_iconst hC (pc := 282) dL_law_282 ?_
              refine wm_goto hC 287 (pc := 283) dL_law_283 (by decide) ?_
              refine wm_iadd hC (pc := 287) dL_law_287 ?_
              refine wm_eqI (y := (a : Int)) (by omega) ?_
              refine wm_istore_n hC 3 (pc := 288) dL_law_288 rfl (by decide) rfl ?_
              refine wm_iinc hC (pc := 289) dL_law_289 rfl rfl (by decide) rfl ?_
              refine wm_goto hC 50 (pc := 292) dL_law_292 (by decide) ?_
              first | exact ih _ (by omega) (k + 1) (a + 1) (tr ++ [P]) P2 _ _ _ _ _ _ _ _ rfl (by omega) (by rw [List.length_append, ha]; rfl) (by omega) (by rw [← push_lst]; exact hO) (by rw [ha]; exact hW.snoc e99) | exact ih _ (by omega) (k + 1) a tr P _ _ _ _ _ _ _ _ rfl (by omega) ha (by omega) hO (by rw [ha]; exact hW.keep)
      · refine wm_aload_n hC 1 (pc := 115) dL_law_115 rfl rfl ?_
        refine wm_iload hC  (pc := 116) dL_law_116 rfl ?_
        refine wm_iload hC  (pc := 118) dL_law_118 rfl ?_
        refine wm_iload hC  (pc := 120) dL_law_120 rfl ?_
        refine wm_bipush hC (pc := 122) dL_law_122 (by decide) ?_
        refine wm_ishrA hC (pc := 124) dL_law_124 (fun v124 hv124 => ?_)
        refine wm_iconst hC (pc := 125) dL_law_125 ?_
        refine wm_iS hC cs_L_164 kc_L_part (t_part (by omega) (by omega)) rfl (by decide) rfl (Nat.le_of_ble_eq_true rfl) (pc := 126) dL_law_126 (fun z126 w126 hw126 => ?_)
        obtain ⟨hz126, rfl⟩ := hw126
        refine wm_iV hC cv_L_26 kc_X8_kind rfl rfl (t_kindA hO (by omega) (by omega) (by omega)) rfl (by decide) rfl (Nat.le_of_ble_eq_true rfl) (pc := 129) dL_law_129 (fun z129 w129 hw129 => ?_)
        have hA := hw129
        refine wm_goto hC 246 (pc := 132) dL_law_132 (by decide) ?_
        refine wm_istore hC  (pc := 246) dL_law_246  (by decide) rfl ?_
        refine wm_iload hC  (pc := 248) dL_law_248 rfl ?_
        refine wm_if_ge hC 276 (pc := 250) dL_law_250 (by decide) (by rcases hA with ⟨q, -⟩ | ⟨q, -⟩ <;> omega) (fun h250 => ?_) (fun h250 => ?_)
        · obtain ⟨-, P2, hO⟩ := hA.resolve_left (fun q => by have := q.1; omega)
          refine wm_iload_n hC 3 (pc := 276) dL_law_276 rfl rfl ?_
          refine wm_iload hC  (pc := 277) dL_law_277 rfl ?_
          refine wm_if_ge hC 286 (pc := 279) dL_law_279 (by decide) (by rcases hA with ⟨q, -⟩ | ⟨q, -⟩ <;> omega) (fun _ => ?_) (fun h => absurd h (by omega))
          refine wm_iconst hC (pc := 286) dL_law_286 ?_
          refine wm_iadd hC (pc := 287) dL_law_287 ?_
          refine wm_eqI (y := (((a + 1 : Nat) : Int) : Int)) (by omega) ?_
          refine wm_istore_n hC 3 (pc := 288) dL_law_288 rfl (by decide) rfl ?_
          refine wm_iinc hC (pc := 289) dL_law_289 rfl rfl (by decide) rfl ?_
          refine wm_goto hC 50 (pc := 292) dL_law_292 (by decide) ?_
          first | exact ih _ (by omega) (k + 1) (a + 1) (tr ++ [P]) P2 _ _ _ _ _ _ _ _ rfl (by omega) (by rw [List.length_append, ha]; rfl) (by omega) (by rw [← push_lst]; exact hO) (by rw [ha]; exact hW.snoc e99) | exact ih _ (by omega) (k + 1) a tr P _ _ _ _ _ _ _ _ rfl (by omega) ha (by omega) hO (by rw [ha]; exact hW.keep)
        · have hO := (hA.resolve_right (fun q => by have := q.1; omega)).2
          refine wm_aload_n hC 1 (pc := 253) dL_law_253 rfl rfl ?_
          refine wm_iconst hC (pc := 254) dL_law_254 ?_
          refine wm_iV hC cv_L_22 kc_X8_count rfl rfl (t_count hO (by omega)) rfl (by decide) rfl (Nat.le_of_ble_eq_true rfl) (pc := 255) dL_law_255 (fun z255 w255 hw255 => ?_)
          obtain ⟨e255, hO⟩ := hw255
          have e255 : z255 = ((lst tr).length : Int) := e255
          refine wm_iload hC  (pc := 258) dL_law_258 rfl ?_
          refine wm_icmp_ne hC 274 (pc := 260) dL_law_260 (by decide) (by omega) (by omega) (fun h260 => ?_) (fun h260 => ?_)
          · exact absurd (e255.trans e105.symm) h260
          · refine wm_aload_n hC 1 (pc := 263) dL_law_263 rfl rfl ?_
            refine wm_jS hC cs_L_74 kc_L_seen (t_seen hO) rfl (by decide) rfl (Nat.le_of_ble_eq_true rfl) (pc := 264) dL_law_264 (fun z264 w264 hw264 => ?_)
            obtain ⟨e264, hO⟩ := hw264
            refine wm_aload_n hC 2 (pc := 267) dL_law_267 rfl rfl ?_
            refine wm_iload_n hC 3 (pc := 268) dL_law_268 rfl rfl ?_
            refine wm_laloadG hC hg (by omega) (by omega) (pc := 269) dL_law_269 ?_
            refine wm_lcmp_eq hC (pc := 270) dL_law_270 (by rw [hO.2.2.2.2.2.2.2.2, iup_at]; exact e264.trans e99.symm) ?_
            refine wm_if_eq hC 276 (pc := 271) dL_law_271 (by decide) (by omega) (fun _ => ?_) (fun h => absurd h (by decide))
            refine wm_iload_n hC 3 (pc := 276) dL_law_276 rfl rfl ?_
            refine wm_iload hC  (pc := 277) dL_law_277 rfl ?_
            refine wm_if_ge hC 286 (pc := 279) dL_law_279 (by decide) (by rcases hA with ⟨q, -⟩ | ⟨q, -⟩ <;> omega) (fun h => absurd h (by omega)) (fun _ => ?_)
            refine wm_iconst hC (pc := 282) dL_law_282 ?_
            refine wm_goto hC 287 (pc := 283) dL_law_283 (by decide) ?_
            refine wm_iadd hC (pc := 287) dL_law_287 ?_
            refine wm_eqI (y := (a : Int)) (by omega) ?_
            refine wm_istore_n hC 3 (pc := 288) dL_law_288 rfl (by decide) rfl ?_
            refine wm_iinc hC (pc := 289) dL_law_289 rfl rfl (by decide) rfl ?_
            refine wm_goto hC 50 (pc := 292) dL_law_292 (by decide) ?_
            first | exact ih _ (by omega) (k + 1) (a + 1) (tr ++ [P]) P2 _ _ _ _ _ _ _ _ rfl (by omega) (by rw [List.length_append, ha]; rfl) (by omega) (by rw [← push_lst]; exact hO) (by rw [ha]; exact hW.snoc e99) | exact ih _ (by omega) (k + 1) a tr P _ _ _ _ _ _ _ _ rfl (by omega) ha (by omega) hO (by rw [ha]; exact hW.keep)
  exact lp50 _ 0 0 [] P0 _ _ none none none none none none rfl (by omega) rfl (Nat.le_refl 0) hO (fun j X h => by simp at h)
