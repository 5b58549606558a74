/-! CIRCLES: the run -/
set_option maxRecDepth 100000 in
set_option maxHeartbeats 4000000 in
theorem ciS14 {l : Launch} {G : mG} {K : mK} {w : mW} {Hs : List Pn} (hC : mC G K 5 RL cL_circles (some .boolean)) (hO : Ob w (tb ciN90) Hs [] (fun _ => 0)) (x1 x2 x3 x4 : Option mV) : Wm l G K 9 5 (qI (fun z _ => z = 1)) 330 [some (mvR 0), some (mvI 25), x2, x3, x4] [] w := by
  refine wm_iload_n hC 1 (pc := 330) dL_circles_330 rfl rfl ?_
  refine wm_bipush hC (pc := 331) dL_circles_331 (by decide) ?_
  refine wm_icmp_ge hC 369 (pc := 333) dL_circles_333 (by decide) (by omega) (by omega) (fun _ => ?_) (fun h => absurd h (by decide))
  refine wm_aload_n hC 0 (pc := 369) dL_circles_369 rfl rfl ?_
  refine wm_iconst hC (pc := 370) dL_circles_370 ?_
  refine wm_iconst hC (pc := 371) dL_circles_371 ?_
  refine wm_iconst hC (pc := 372) dL_circles_372 ?_
  refine wm_iV hC cv_L_19 kc_X8_talk rfl rfl (t_talkW hO (by decide)) rfl (by decide) rfl (Nat.le_of_ble_eq_true rfl) (pc := 373) dL_circles_373 (fun z373 w373 hw373 => ?_)
  obtain ⟨e373, hO⟩ := hw373
  replace e373 := e373.trans civ206
  subst e373
  refine wm_if_ne hC 408 (pc := 376) dL_circles_376 (by decide) (by omega) (fun h => absurd h (by decide)) (fun _ => ?_)
  refine wm_aload_n hC 0 (pc := 379) dL_circles_379 rfl rfl ?_
  refine wm_iconst hC (pc := 380) dL_circles_380 ?_
  refine wm_iconst hC (pc := 381) dL_circles_381 ?_
  refine wm_iconst hC (pc := 382) dL_circles_382 ?_
  refine wm_iV hC cv_L_19 kc_X8_talk rfl rfl (t_talkW hO (by decide)) rfl (by decide) rfl (Nat.le_of_ble_eq_true rfl) (pc := 383) dL_circles_383 (fun z383 w383 hw383 => ?_)
  obtain ⟨e383, hO⟩ := hw383
  replace e383 := e383.trans civ207
  subst e383
  refine wm_bipush hC (pc := 386) dL_circles_386 (by decide) ?_
  refine wm_icmp_ne hC 408 (pc := 388) dL_circles_388 (by decide) (by omega) (by omega) (fun h => absurd h (by decide)) (fun _ => ?_)
  refine wm_aload_n hC 0 (pc := 391) dL_circles_391 rfl rfl ?_
  refine wm_iconst hC (pc := 392) dL_circles_392 ?_
  refine wm_iconst hC (pc := 393) dL_circles_393 ?_
  refine wm_jV hC cv_L_56 kc_X8_talks rfl rfl (t_talksW hO (by decide)) rfl (by decide) rfl (Nat.le_of_ble_eq_true rfl) (pc := 394) dL_circles_394 (fun z394 w394 hw394 => ?_)
  obtain ⟨e394, hO⟩ := hw394
  replace e394 := e394.trans civ208
  subst e394
  refine wm_ldc2 hC (782757789696) kJ_L_146 (pc := 397) dL_circles_397 ?_
  refine wm_lcmp_eq hC (pc := 400) dL_circles_400 rfl ?_
  refine wm_if_ne hC 408 (pc := 401) dL_circles_401 (by decide) (by omega) (fun h => absurd h (by decide)) (fun _ => ?_)
  refine wm_iconst hC (pc := 404) dL_circles_404 ?_
  refine wm_goto hC 409 (pc := 405) dL_circles_405 (by decide) ?_
  refine wm_zretI hC (pc := 409) dL_circles_409 (by decide) ?_
  rfl
set_option maxRecDepth 100000 in
set_option maxHeartbeats 4000000 in
theorem ciS13 {l : Launch} {G : mG} {K : mK} {w : mW} {Hs : List Pn} (hC : mC G K 5 RL cL_circles (some .boolean)) (hO : Ob w (tb ciN85) Hs [] (fun _ => 0)) (x1 x2 x3 x4 : Option mV) : Wm l G K 9 5 (qI (fun z _ => z = 1)) 330 [some (mvR 0), some (mvI 20), x2, x3, x4] [] w := by
  refine wm_iload_n hC 1 (pc := 330) dL_circles_330 rfl rfl ?_
  refine wm_bipush hC (pc := 331) dL_circles_331 (by decide) ?_
  refine wm_icmp_ge hC 369 (pc := 333) dL_circles_333 (by decide) (by omega) (by omega) (fun h => absurd h (by decide)) (fun _ => ?_)
  refine wm_iload_n hC 1 (pc := 336) dL_circles_336 rfl rfl ?_
  refine wm_iconst hC (pc := 337) dL_circles_337 ?_
  refine wm_idiv hC (pc := 338) dL_circles_338 (by omega) (by omega) ?_
  refine wm_eqI (y := 4) (by decide) ?_
  refine wm_istore_n hC 2 (pc := 339) dL_circles_339 rfl (by decide) rfl ?_
  refine wm_show (L' := [some (mvR 0), some (mvI 20), some (mvI 4), x3, x4]) rfl rfl rfl rfl ?_
  refine wm_iload_n hC 2 (pc := 340) dL_circles_340 rfl rfl ?_
  refine wm_if_eq hC 363 (pc := 341) dL_circles_341 (by decide) (by omega) (fun h => absurd h (by decide)) (fun _ => ?_)
  refine wm_iload_n hC 2 (pc := 344) dL_circles_344 rfl rfl ?_
  refine wm_iconst hC (pc := 345) dL_circles_345 ?_
  refine wm_icmp_eq hC 363 (pc := 346) dL_circles_346 (by decide) (by omega) (by omega) (fun h => absurd h (by decide)) (fun _ => ?_)
  refine wm_aload_n hC 0 (pc := 349) dL_circles_349 rfl rfl ?_
  refine wm_iconst hC (pc := 350) dL_circles_350 ?_
  refine wm_iload_n hC 1 (pc := 351) dL_circles_351 rfl rfl ?_
  refine wm_iconst hC (pc := 352) dL_circles_352 ?_
  refine wm_irem hC (pc := 353) dL_circles_353 (by omega) (by omega) ?_
  refine wm_eqI (y := 0) (by decide) ?_
  refine wm_iload_n hC 2 (pc := 354) dL_circles_354 rfl rfl ?_
  refine wm_iV hC cv_L_36 kc_X8_erase rfl rfl (t_eraseV hO (by decide) civ191) rfl (by decide) rfl (Nat.le_of_ble_eq_true rfl) (pc := 355) dL_circles_355 (fun z355 w355 hw355 => ?_)
  obtain ⟨e355, hO⟩ := hw355
  replace e355 := e355.trans civ192
  subst e355
  have hO := hO.to civ193
  generalize push Hs (tb ciN85) = Hs at hO
  refine wm_if_ge hC 363 (pc := 358) dL_circles_358 (by decide) (by omega) (fun _ => ?_) (fun h => absurd h (by decide))
  refine wm_iinc hC (v := 21) (pc := 363) dL_circles_363 rfl (by decide) (by decide) rfl ?_
  refine wm_show (L' := [some (mvR 0), some (mvI 21), some (mvI 4), x3, x4]) rfl rfl rfl rfl ?_
  refine wm_goto hC 330 (pc := 366) dL_circles_366 (by decide) ?_
  refine wm_iload_n hC 1 (pc := 330) dL_circles_330 rfl rfl ?_
  refine wm_bipush hC (pc := 331) dL_circles_331 (by decide) ?_
  refine wm_icmp_ge hC 369 (pc := 333) dL_circles_333 (by decide) (by omega) (by omega) (fun h => absurd h (by decide)) (fun _ => ?_)
  refine wm_iload_n hC 1 (pc := 336) dL_circles_336 rfl rfl ?_
  refine wm_iconst hC (pc := 337) dL_circles_337 ?_
  refine wm_idiv hC (pc := 338) dL_circles_338 (by omega) (by omega) ?_
  refine wm_eqI (y := 4) (by decide) ?_
  refine wm_istore_n hC 2 (pc := 339) dL_circles_339 rfl (by decide) rfl ?_
  refine wm_show (L' := [some (mvR 0), some (mvI 21), some (mvI 4), x3, x4]) rfl rfl rfl rfl ?_
  refine wm_iload_n hC 2 (pc := 340) dL_circles_340 rfl rfl ?_
  refine wm_if_eq hC 363 (pc := 341) dL_circles_341 (by decide) (by omega) (fun h => absurd h (by decide)) (fun _ => ?_)
  refine wm_iload_n hC 2 (pc := 344) dL_circles_344 rfl rfl ?_
  refine wm_iconst hC (pc := 345) dL_circles_345 ?_
  refine wm_icmp_eq hC 363 (pc := 346) dL_circles_346 (by decide) (by omega) (by omega) (fun h => absurd h (by decide)) (fun _ => ?_)
  refine wm_aload_n hC 0 (pc := 349) dL_circles_349 rfl rfl ?_
  refine wm_iconst hC (pc := 350) dL_circles_350 ?_
  refine wm_iload_n hC 1 (pc := 351) dL_circles_351 rfl rfl ?_
  refine wm_iconst hC (pc := 352) dL_circles_352 ?_
  refine wm_irem hC (pc := 353) dL_circles_353 (by omega) (by omega) ?_
  refine wm_eqI (y := 1) (by decide) ?_
  refine wm_iload_n hC 2 (pc := 354) dL_circles_354 rfl rfl ?_
  refine wm_iV hC cv_L_36 kc_X8_erase rfl rfl (t_eraseV hO (by decide) civ194) rfl (by decide) rfl (Nat.le_of_ble_eq_true rfl) (pc := 355) dL_circles_355 (fun z355 w355 hw355 => ?_)
  obtain ⟨e355, hO⟩ := hw355
  replace e355 := e355.trans civ195
  subst e355
  have hO := hO.to civ196
  generalize push Hs (tb ciN86) = Hs at hO
  refine wm_if_ge hC 363 (pc := 358) dL_circles_358 (by decide) (by omega) (fun _ => ?_) (fun h => absurd h (by decide))
  refine wm_iinc hC (v := 22) (pc := 363) dL_circles_363 rfl (by decide) (by decide) rfl ?_
  refine wm_show (L' := [some (mvR 0), some (mvI 22), some (mvI 4), x3, x4]) rfl rfl rfl rfl ?_
  refine wm_goto hC 330 (pc := 366) dL_circles_366 (by decide) ?_
  refine wm_iload_n hC 1 (pc := 330) dL_circles_330 rfl rfl ?_
  refine wm_bipush hC (pc := 331) dL_circles_331 (by decide) ?_
  refine wm_icmp_ge hC 369 (pc := 333) dL_circles_333 (by decide) (by omega) (by omega) (fun h => absurd h (by decide)) (fun _ => ?_)
  refine wm_iload_n hC 1 (pc := 336) dL_circles_336 rfl rfl ?_
  refine wm_iconst hC (pc := 337) dL_circles_337 ?_
  refine wm_idiv hC (pc := 338) dL_circles_338 (by omega) (by omega) ?_
  refine wm_eqI (y := 4) (by decide) ?_
  refine wm_istore_n hC 2 (pc := 339) dL_circles_339 rfl (by decide) rfl ?_
  refine wm_show (L' := [some (mvR 0), some (mvI 22), some (mvI 4), x3, x4]) rfl rfl rfl rfl ?_
  refine wm_iload_n hC 2 (pc := 340) dL_circles_340 rfl rfl ?_
  refine wm_if_eq hC 363 (pc := 341) dL_circles_341 (by decide) (by omega) (fun h => absurd h (by decide)) (fun _ => ?_)
  refine wm_iload_n hC 2 (pc := 344) dL_circles_344 rfl rfl ?_
  refine wm_iconst hC (pc := 345) dL_circles_345 ?_
  refine wm_icmp_eq hC 363 (pc := 346) dL_circles_346 (by decide) (by omega) (by omega) (fun h => absurd h (by decide)) (fun _ => ?_)
  refine wm_aload_n hC 0 (pc := 349) dL_circles_349 rfl rfl ?_
  refine wm_iconst hC (pc := 350) dL_circles_350 ?_
  refine wm_iload_n hC 1 (pc := 351) dL_circles_351 rfl rfl ?_
  refine wm_iconst hC (pc := 352) dL_circles_352 ?_
  refine wm_irem hC (pc := 353) dL_circles_353 (by omega) (by omega) ?_
  refine wm_eqI (y := 2) (by decide) ?_
  refine wm_iload_n hC 2 (pc := 354) dL_circles_354 rfl rfl ?_
  refine wm_iV hC cv_L_36 kc_X8_erase rfl rfl (t_eraseV hO (by decide) civ197) rfl (by decide) rfl (Nat.le_of_ble_eq_true rfl) (pc := 355) dL_circles_355 (fun z355 w355 hw355 => ?_)
  obtain ⟨e355, hO⟩ := hw355
  replace e355 := e355.trans civ198
  subst e355
  have hO := hO.to civ199
  generalize push Hs (tb ciN87) = Hs at hO
  refine wm_if_ge hC 363 (pc := 358) dL_circles_358 (by decide) (by omega) (fun _ => ?_) (fun h => absurd h (by decide))
  refine wm_iinc hC (v := 23) (pc := 363) dL_circles_363 rfl (by decide) (by decide) rfl ?_
  refine wm_show (L' := [some (mvR 0), some (mvI 23), some (mvI 4), x3, x4]) rfl rfl rfl rfl ?_
  refine wm_goto hC 330 (pc := 366) dL_circles_366 (by decide) ?_
  refine wm_iload_n hC 1 (pc := 330) dL_circles_330 rfl rfl ?_
  refine wm_bipush hC (pc := 331) dL_circles_331 (by decide) ?_
  refine wm_icmp_ge hC 369 (pc := 333) dL_circles_333 (by decide) (by omega) (by omega) (fun h => absurd h (by decide)) (fun _ => ?_)
  refine wm_iload_n hC 1 (pc := 336) dL_circles_336 rfl rfl ?_
  refine wm_iconst hC (pc := 337) dL_circles_337 ?_
  refine wm_idiv hC (pc := 338) dL_circles_338 (by omega) (by omega) ?_
  refine wm_eqI (y := 4) (by decide) ?_
  refine wm_istore_n hC 2 (pc := 339) dL_circles_339 rfl (by decide) rfl ?_
  refine wm_show (L' := [some (mvR 0), some (mvI 23), some (mvI 4), x3, x4]) rfl rfl rfl rfl ?_
  refine wm_iload_n hC 2 (pc := 340) dL_circles_340 rfl rfl ?_
  refine wm_if_eq hC 363 (pc := 341) dL_circles_341 (by decide) (by omega) (fun h => absurd h (by decide)) (fun _ => ?_)
  refine wm_iload_n hC 2 (pc := 344) dL_circles_344 rfl rfl ?_
  refine wm_iconst hC (pc := 345) dL_circles_345 ?_
  refine wm_icmp_eq hC 363 (pc := 346) dL_circles_346 (by decide) (by omega) (by omega) (fun h => absurd h (by decide)) (fun _ => ?_)
  refine wm_aload_n hC 0 (pc := 349) dL_circles_349 rfl rfl ?_
  refine wm_iconst hC (pc := 350) dL_circles_350 ?_
  refine wm_iload_n hC 1 (pc := 351) dL_circles_351 rfl rfl ?_
  refine wm_iconst hC (pc := 352) dL_circles_352 ?_
  refine wm_irem hC (pc := 353) dL_circles_353 (by omega) (by omega) ?_
  refine wm_eqI (y := 3) (by decide) ?_
  refine wm_iload_n hC 2 (pc := 354) dL_circles_354 rfl rfl ?_
  refine wm_iV hC cv_L_36 kc_X8_erase rfl rfl (t_eraseV hO (by decide) civ200) rfl (by decide) rfl (Nat.le_of_ble_eq_true rfl) (pc := 355) dL_circles_355 (fun z355 w355 hw355 => ?_)
  obtain ⟨e355, hO⟩ := hw355
  replace e355 := e355.trans civ201
  subst e355
  have hO := hO.to civ202
  generalize push Hs (tb ciN88) = Hs at hO
  refine wm_if_ge hC 363 (pc := 358) dL_circles_358 (by decide) (by omega) (fun _ => ?_) (fun h => absurd h (by decide))
  refine wm_iinc hC (v := 24) (pc := 363) dL_circles_363 rfl (by decide) (by decide) rfl ?_
  refine wm_show (L' := [some (mvR 0), some (mvI 24), some (mvI 4), x3, x4]) rfl rfl rfl rfl ?_
  refine wm_goto hC 330 (pc := 366) dL_circles_366 (by decide) ?_
  refine wm_iload_n hC 1 (pc := 330) dL_circles_330 rfl rfl ?_
  refine wm_bipush hC (pc := 331) dL_circles_331 (by decide) ?_
  refine wm_icmp_ge hC 369 (pc := 333) dL_circles_333 (by decide) (by omega) (by omega) (fun h => absurd h (by decide)) (fun _ => ?_)
  refine wm_iload_n hC 1 (pc := 336) dL_circles_336 rfl rfl ?_
  refine wm_iconst hC (pc := 337) dL_circles_337 ?_
  refine wm_idiv hC (pc := 338) dL_circles_338 (by omega) (by omega) ?_
  refine wm_eqI (y := 4) (by decide) ?_
  refine wm_istore_n hC 2 (pc := 339) dL_circles_339 rfl (by decide) rfl ?_
  refine wm_show (L' := [some (mvR 0), some (mvI 24), some (mvI 4), x3, x4]) rfl rfl rfl rfl ?_
  refine wm_iload_n hC 2 (pc := 340) dL_circles_340 rfl rfl ?_
  refine wm_if_eq hC 363 (pc := 341) dL_circles_341 (by decide) (by omega) (fun h => absurd h (by decide)) (fun _ => ?_)
  refine wm_iload_n hC 2 (pc := 344) dL_circles_344 rfl rfl ?_
  refine wm_iconst hC (pc := 345) dL_circles_345 ?_
  refine wm_icmp_eq hC 363 (pc := 346) dL_circles_346 (by decide) (by omega) (by omega) (fun h => absurd h (by decide)) (fun _ => ?_)
  refine wm_aload_n hC 0 (pc := 349) dL_circles_349 rfl rfl ?_
  refine wm_iconst hC (pc := 350) dL_circles_350 ?_
  refine wm_iload_n hC 1 (pc := 351) dL_circles_351 rfl rfl ?_
  refine wm_iconst hC (pc := 352) dL_circles_352 ?_
  refine wm_irem hC (pc := 353) dL_circles_353 (by omega) (by omega) ?_
  refine wm_eqI (y := 4) (by decide) ?_
  refine wm_iload_n hC 2 (pc := 354) dL_circles_354 rfl rfl ?_
  refine wm_iV hC cv_L_36 kc_X8_erase rfl rfl (t_eraseV hO (by decide) civ203) rfl (by decide) rfl (Nat.le_of_ble_eq_true rfl) (pc := 355) dL_circles_355 (fun z355 w355 hw355 => ?_)
  obtain ⟨e355, hO⟩ := hw355
  replace e355 := e355.trans civ204
  subst e355
  have hO := hO.to civ205
  generalize push Hs (tb ciN89) = Hs at hO
  refine wm_if_ge hC 363 (pc := 358) dL_circles_358 (by decide) (by omega) (fun _ => ?_) (fun h => absurd h (by decide))
  refine wm_iinc hC (v := 25) (pc := 363) dL_circles_363 rfl (by decide) (by decide) rfl ?_
  refine wm_show (L' := [some (mvR 0), some (mvI 25), some (mvI 4), x3, x4]) rfl rfl rfl rfl ?_
  refine wm_goto hC 330 (pc := 366) dL_circles_366 (by decide) ?_
  exact ciS14 hC hO none _ _ _
set_option maxRecDepth 100000 in
set_option maxHeartbeats 4000000 in
theorem ciS12 {l : Launch} {G : mG} {K : mK} {w : mW} {Hs : List Pn} (hC : mC G K 5 RL cL_circles (some .boolean)) (hO : Ob w (tb ciN80) Hs [] (fun _ => 0)) (x1 x2 x3 x4 : Option mV) : Wm l G K 9 5 (qI (fun z _ => z = 1)) 330 [some (mvR 0), some (mvI 15), x2, x3, x4] [] w := by
  refine wm_iload_n hC 1 (pc := 330) dL_circles_330 rfl rfl ?_
  refine wm_bipush hC (pc := 331) dL_circles_331 (by decide) ?_
  refine wm_icmp_ge hC 369 (pc := 333) dL_circles_333 (by decide) (by omega) (by omega) (fun h => absurd h (by decide)) (fun _ => ?_)
  refine wm_iload_n hC 1 (pc := 336) dL_circles_336 rfl rfl ?_
  refine wm_iconst hC (pc := 337) dL_circles_337 ?_
  refine wm_idiv hC (pc := 338) dL_circles_338 (by omega) (by omega) ?_
  refine wm_eqI (y := 3) (by decide) ?_
  refine wm_istore_n hC 2 (pc := 339) dL_circles_339 rfl (by decide) rfl ?_
  refine wm_show (L' := [some (mvR 0), some (mvI 15), some (mvI 3), x3, x4]) rfl rfl rfl rfl ?_
  refine wm_iload_n hC 2 (pc := 340) dL_circles_340 rfl rfl ?_
  refine wm_if_eq hC 363 (pc := 341) dL_circles_341 (by decide) (by omega) (fun h => absurd h (by decide)) (fun _ => ?_)
  refine wm_iload_n hC 2 (pc := 344) dL_circles_344 rfl rfl ?_
  refine wm_iconst hC (pc := 345) dL_circles_345 ?_
  refine wm_icmp_eq hC 363 (pc := 346) dL_circles_346 (by decide) (by omega) (by omega) (fun h => absurd h (by decide)) (fun _ => ?_)
  refine wm_aload_n hC 0 (pc := 349) dL_circles_349 rfl rfl ?_
  refine wm_iconst hC (pc := 350) dL_circles_350 ?_
  refine wm_iload_n hC 1 (pc := 351) dL_circles_351 rfl rfl ?_
  refine wm_iconst hC (pc := 352) dL_circles_352 ?_
  refine wm_irem hC (pc := 353) dL_circles_353 (by omega) (by omega) ?_
  refine wm_eqI (y := 0) (by decide) ?_
  refine wm_iload_n hC 2 (pc := 354) dL_circles_354 rfl rfl ?_
  refine wm_iV hC cv_L_36 kc_X8_erase rfl rfl (t_eraseV hO (by decide) civ176) rfl (by decide) rfl (Nat.le_of_ble_eq_true rfl) (pc := 355) dL_circles_355 (fun z355 w355 hw355 => ?_)
  obtain ⟨e355, hO⟩ := hw355
  replace e355 := e355.trans civ177
  subst e355
  have hO := hO.to civ178
  generalize push Hs (tb ciN80) = Hs at hO
  refine wm_if_ge hC 363 (pc := 358) dL_circles_358 (by decide) (by omega) (fun _ => ?_) (fun h => absurd h (by decide))
  refine wm_iinc hC (v := 16) (pc := 363) dL_circles_363 rfl (by decide) (by decide) rfl ?_
  refine wm_show (L' := [some (mvR 0), some (mvI 16), some (mvI 3), x3, x4]) rfl rfl rfl rfl ?_
  refine wm_goto hC 330 (pc := 366) dL_circles_366 (by decide) ?_
  refine wm_iload_n hC 1 (pc := 330) dL_circles_330 rfl rfl ?_
  refine wm_bipush hC (pc := 331) dL_circles_331 (by decide) ?_
  refine wm_icmp_ge hC 369 (pc := 333) dL_circles_333 (by decide) (by omega) (by omega) (fun h => absurd h (by decide)) (fun _ => ?_)
  refine wm_iload_n hC 1 (pc := 336) dL_circles_336 rfl rfl ?_
  refine wm_iconst hC (pc := 337) dL_circles_337 ?_
  refine wm_idiv hC (pc := 338) dL_circles_338 (by omega) (by omega) ?_
  refine wm_eqI (y := 3) (by decide) ?_
  refine wm_istore_n hC 2 (pc := 339) dL_circles_339 rfl (by decide) rfl ?_
  refine wm_show (L' := [some (mvR 0), some (mvI 16), some (mvI 3), x3, x4]) rfl rfl rfl rfl ?_
  refine wm_iload_n hC 2 (pc := 340) dL_circles_340 rfl rfl ?_
  refine wm_if_eq hC 363 (pc := 341) dL_circles_341 (by decide) (by omega) (fun h => absurd h (by decide)) (fun _ => ?_)
  refine wm_iload_n hC 2 (pc := 344) dL_circles_344 rfl rfl ?_
  refine wm_iconst hC (pc := 345) dL_circles_345 ?_
  refine wm_icmp_eq hC 363 (pc := 346) dL_circles_346 (by decide) (by omega) (by omega) (fun h => absurd h (by decide)) (fun _ => ?_)
  refine wm_aload_n hC 0 (pc := 349) dL_circles_349 rfl rfl ?_
  refine wm_iconst hC (pc := 350) dL_circles_350 ?_
  refine wm_iload_n hC 1 (pc := 351) dL_circles_351 rfl rfl ?_
  refine wm_iconst hC (pc := 352) dL_circles_352 ?_
  refine wm_irem hC (pc := 353) dL_circles_353 (by omega) (by omega) ?_
  refine wm_eqI (y := 1) (by decide) ?_
  refine wm_iload_n hC 2 (pc := 354) dL_circles_354 rfl rfl ?_
  refine wm_iV hC cv_L_36 kc_X8_erase rfl rfl (t_eraseV hO (by decide) civ179) rfl (by decide) rfl (Nat.le_of_ble_eq_true rfl) (pc := 355) dL_circles_355 (fun z355 w355 hw355 => ?_)
  obtain ⟨e355, hO⟩ := hw355
  replace e355 := e355.trans civ180
  subst e355
  have hO := hO.to civ181
  generalize push Hs (tb ciN81) = Hs at hO
  refine wm_if_ge hC 363 (pc := 358) dL_circles_358 (by decide) (by omega) (fun _ => ?_) (fun h => absurd h (by decide))
  refine wm_iinc hC (v := 17) (pc := 363) dL_circles_363 rfl (by decide) (by decide) rfl ?_
  refine wm_show (L' := [some (mvR 0), some (mvI 17), some (mvI 3), x3, x4]) rfl rfl rfl rfl ?_
  refine wm_goto hC 330 (pc := 366) dL_circles_366 (by decide) ?_
  refine wm_iload_n hC 1 (pc := 330) dL_circles_330 rfl rfl ?_
  refine wm_bipush hC (pc := 331) dL_circles_331 (by decide) ?_
  refine wm_icmp_ge hC 369 (pc := 333) dL_circles_333 (by decide) (by omega) (by omega) (fun h => absurd h (by decide)) (fun _ => ?_)
  refine wm_iload_n hC 1 (pc := 336) dL_circles_336 rfl rfl ?_
  refine wm_iconst hC (pc := 337) dL_circles_337 ?_
  refine wm_idiv hC (pc := 338) dL_circles_338 (by omega) (by omega) ?_
  refine wm_eqI (y := 3) (by decide) ?_
  refine wm_istore_n hC 2 (pc := 339) dL_circles_339 rfl (by decide) rfl ?_
  refine wm_show (L' := [some (mvR 0), some (mvI 17), some (mvI 3), x3, x4]) rfl rfl rfl rfl ?_
  refine wm_iload_n hC 2 (pc := 340) dL_circles_340 rfl rfl ?_
  refine wm_if_eq hC 363 (pc := 341) dL_circles_341 (by decide) (by omega) (fun h => absurd h (by decide)) (fun _ => ?_)
  refine wm_iload_n hC 2 (pc := 344) dL_circles_344 rfl rfl ?_
  refine wm_iconst hC (pc := 345) dL_circles_345 ?_
  refine wm_icmp_eq hC 363 (pc := 346) dL_circles_346 (by decide) (by omega) (by omega) (fun h => absurd h (by decide)) (fun _ => ?_)
  refine wm_aload_n hC 0 (pc := 349) dL_circles_349 rfl rfl ?_
  refine wm_iconst hC (pc := 350) dL_circles_350 ?_
  refine wm_iload_n hC 1 (pc := 351) dL_circles_351 rfl rfl ?_
  refine wm_iconst hC (pc := 352) dL_circles_352 ?_
  refine wm_irem hC (pc := 353) dL_circles_353 (by omega) (by omega) ?_
  refine wm_eqI (y := 2) (by decide) ?_
  refine wm_iload_n hC 2 (pc := 354) dL_circles_354 rfl rfl ?_
  refine wm_iV hC cv_L_36 kc_X8_erase rfl rfl (t_eraseV hO (by decide) civ182) rfl (by decide) rfl (Nat.le_of_ble_eq_true rfl) (pc := 355) dL_circles_355 (fun z355 w355 hw355 => ?_)
  obtain ⟨e355, hO⟩ := hw355
  replace e355 := e355.trans civ183
  subst e355
  have hO := hO.to civ184
  generalize push Hs (tb ciN82) = Hs at hO
  refine wm_if_ge hC 363 (pc := 358) dL_circles_358 (by decide) (by omega) (fun _ => ?_) (fun h => absurd h (by decide))
  refine wm_iinc hC (v := 18) (pc := 363) dL_circles_363 rfl (by decide) (by decide) rfl ?_
  refine wm_show (L' := [some (mvR 0), some (mvI 18), some (mvI 3), x3, x4]) rfl rfl rfl rfl ?_
  refine wm_goto hC 330 (pc := 366) dL_circles_366 (by decide) ?_
  refine wm_iload_n hC 1 (pc := 330) dL_circles_330 rfl rfl ?_
  refine wm_bipush hC (pc := 331) dL_circles_331 (by decide) ?_
  refine wm_icmp_ge hC 369 (pc := 333) dL_circles_333 (by decide) (by omega) (by omega) (fun h => absurd h (by decide)) (fun _ => ?_)
  refine wm_iload_n hC 1 (pc := 336) dL_circles_336 rfl rfl ?_
  refine wm_iconst hC (pc := 337) dL_circles_337 ?_
  refine wm_idiv hC (pc := 338) dL_circles_338 (by omega) (by omega) ?_
  refine wm_eqI (y := 3) (by decide) ?_
  refine wm_istore_n hC 2 (pc := 339) dL_circles_339 rfl (by decide) rfl ?_
  refine wm_show (L' := [some (mvR 0), some (mvI 18), some (mvI 3), x3, x4]) rfl rfl rfl rfl ?_
  refine wm_iload_n hC 2 (pc := 340) dL_circles_340 rfl rfl ?_
  refine wm_if_eq hC 363 (pc := 341) dL_circles_341 (by decide) (by omega) (fun h => absurd h (by decide)) (fun _ => ?_)
  refine wm_iload_n hC 2 (pc := 344) dL_circles_344 rfl rfl ?_
  refine wm_iconst hC (pc := 345) dL_circles_345 ?_
  refine wm_icmp_eq hC 363 (pc := 346) dL_circles_346 (by decide) (by omega) (by omega) (fun h => absurd h (by decide)) (fun _ => ?_)
  refine wm_aload_n hC 0 (pc := 349) dL_circles_349 rfl rfl ?_
  refine wm_iconst hC (pc := 350) dL_circles_350 ?_
  refine wm_iload_n hC 1 (pc := 351) dL_circles_351 rfl rfl ?_
  refine wm_iconst hC (pc := 352) dL_circles_352 ?_
  refine wm_irem hC (pc := 353) dL_circles_353 (by omega) (by omega) ?_
  refine wm_eqI (y := 3) (by decide) ?_
  refine wm_iload_n hC 2 (pc := 354) dL_circles_354 rfl rfl ?_
  refine wm_iV hC cv_L_36 kc_X8_erase rfl rfl (t_eraseV hO (by decide) civ185) rfl (by decide) rfl (Nat.le_of_ble_eq_true rfl) (pc := 355) dL_circles_355 (fun z355 w355 hw355 => ?_)
  obtain ⟨e355, hO⟩ := hw355
  replace e355 := e355.trans civ186
  subst e355
  have hO := hO.to civ187
  generalize push Hs (tb ciN83) = Hs at hO
  refine wm_if_ge hC 363 (pc := 358) dL_circles_358 (by decide) (by omega) (fun _ => ?_) (fun h => absurd h (by decide))
  refine wm_iinc hC (v := 19) (pc := 363) dL_circles_363 rfl (by decide) (by decide) rfl ?_
  refine wm_show (L' := [some (mvR 0), some (mvI 19), some (mvI 3), x3, x4]) rfl rfl rfl rfl ?_
  refine wm_goto hC 330 (pc := 366) dL_circles_366 (by decide) ?_
  refine wm_iload_n hC 1 (pc := 330) dL_circles_330 rfl rfl ?_
  refine wm_bipush hC (pc := 331) dL_circles_331 (by decide) ?_
  refine wm_icmp_ge hC 369 (pc := 333) dL_circles_333 (by decide) (by omega) (by omega) (fun h => absurd h (by decide)) (fun _ => ?_)
  refine wm_iload_n hC 1 (pc := 336) dL_circles_336 rfl rfl ?_
  refine wm_iconst hC (pc := 337) dL_circles_337 ?_
  refine wm_idiv hC (pc := 338) dL_circles_338 (by omega) (by omega) ?_
  refine wm_eqI (y := 3) (by decide) ?_
  refine wm_istore_n hC 2 (pc := 339) dL_circles_339 rfl (by decide) rfl ?_
  refine wm_show (L' := [some (mvR 0), some (mvI 19), some (mvI 3), x3, x4]) rfl rfl rfl rfl ?_
  refine wm_iload_n hC 2 (pc := 340) dL_circles_340 rfl rfl ?_
  refine wm_if_eq hC 363 (pc := 341) dL_circles_341 (by decide) (by omega) (fun h => absurd h (by decide)) (fun _ => ?_)
  refine wm_iload_n hC 2 (pc := 344) dL_circles_344 rfl rfl ?_
  refine wm_iconst hC (pc := 345) dL_circles_345 ?_
  refine wm_icmp_eq hC 363 (pc := 346) dL_circles_346 (by decide) (by omega) (by omega) (fun h => absurd h (by decide)) (fun _ => ?_)
  refine wm_aload_n hC 0 (pc := 349) dL_circles_349 rfl rfl ?_
  refine wm_iconst hC (pc := 350) dL_circles_350 ?_
  refine wm_iload_n hC 1 (pc := 351) dL_circles_351 rfl rfl ?_
  refine wm_iconst hC (pc := 352) dL_circles_352 ?_
  refine wm_irem hC (pc := 353) dL_circles_353 (by omega) (by omega) ?_
  refine wm_eqI (y := 4) (by decide) ?_
  refine wm_iload_n hC 2 (pc := 354) dL_circles_354 rfl rfl ?_
  refine wm_iV hC cv_L_36 kc_X8_erase rfl rfl (t_eraseV hO (by decide) civ188) rfl (by decide) rfl (Nat.le_of_ble_eq_true rfl) (pc := 355) dL_circles_355 (fun z355 w355 hw355 => ?_)
  obtain ⟨e355, hO⟩ := hw355
  replace e355 := e355.trans civ189
  subst e355
  have hO := hO.to civ190
  generalize push Hs (tb ciN84) = Hs at hO
  refine wm_if_ge hC 363 (pc := 358) dL_circles_358 (by decide) (by omega) (fun _ => ?_) (fun h => absurd h (by decide))
  refine wm_iinc hC (v := 20) (pc := 363) dL_circles_363 rfl (by decide) (by decide) rfl ?_
  refine wm_show (L' := [some (mvR 0), some (mvI 20), some (mvI 3), x3, x4]) rfl rfl rfl rfl ?_
  refine wm_goto hC 330 (pc := 366) dL_circles_366 (by decide) ?_
  exact ciS13 hC hO none _ _ _
set_option maxRecDepth 100000 in
set_option maxHeartbeats 4000000 in
theorem ciS11 {l : Launch} {G : mG} {K : mK} {w : mW} {Hs : List Pn} (hC : mC G K 5 RL cL_circles (some .boolean)) (hO : Ob w (tb ciN80) Hs [] (fun _ => 0)) (x1 x2 x3 x4 : Option mV) : Wm l G K 9 5 (qI (fun z _ => z = 1)) 330 [some (mvR 0), some (mvI 10), x2, x3, x4] [] w := by
  refine wm_iload_n hC 1 (pc := 330) dL_circles_330 rfl rfl ?_
  refine wm_bipush hC (pc := 331) dL_circles_331 (by decide) ?_
  refine wm_icmp_ge hC 369 (pc := 333) dL_circles_333 (by decide) (by omega) (by omega) (fun h => absurd h (by decide)) (fun _ => ?_)
  refine wm_iload_n hC 1 (pc := 336) dL_circles_336 rfl rfl ?_
  refine wm_iconst hC (pc := 337) dL_circles_337 ?_
  refine wm_idiv hC (pc := 338) dL_circles_338 (by omega) (by omega) ?_
  refine wm_eqI (y := 2) (by decide) ?_
  refine wm_istore_n hC 2 (pc := 339) dL_circles_339 rfl (by decide) rfl ?_
  refine wm_show (L' := [some (mvR 0), some (mvI 10), some (mvI 2), x3, x4]) rfl rfl rfl rfl ?_
  refine wm_iload_n hC 2 (pc := 340) dL_circles_340 rfl rfl ?_
  refine wm_if_eq hC 363 (pc := 341) dL_circles_341 (by decide) (by omega) (fun h => absurd h (by decide)) (fun _ => ?_)
  refine wm_iload_n hC 2 (pc := 344) dL_circles_344 rfl rfl ?_
  refine wm_iconst hC (pc := 345) dL_circles_345 ?_
  refine wm_icmp_eq hC 363 (pc := 346) dL_circles_346 (by decide) (by omega) (by omega) (fun _ => ?_) (fun h => absurd h (by decide))
  refine wm_iinc hC (v := 11) (pc := 363) dL_circles_363 rfl (by decide) (by decide) rfl ?_
  refine wm_show (L' := [some (mvR 0), some (mvI 11), some (mvI 2), x3, x4]) rfl rfl rfl rfl ?_
  refine wm_goto hC 330 (pc := 366) dL_circles_366 (by decide) ?_
  refine wm_iload_n hC 1 (pc := 330) dL_circles_330 rfl rfl ?_
  refine wm_bipush hC (pc := 331) dL_circles_331 (by decide) ?_
  refine wm_icmp_ge hC 369 (pc := 333) dL_circles_333 (by decide) (by omega) (by omega) (fun h => absurd h (by decide)) (fun _ => ?_)
  refine wm_iload_n hC 1 (pc := 336) dL_circles_336 rfl rfl ?_
  refine wm_iconst hC (pc := 337) dL_circles_337 ?_
  refine wm_idiv hC (pc := 338) dL_circles_338 (by omega) (by omega) ?_
  refine wm_eqI (y := 2) (by decide) ?_
  refine wm_istore_n hC 2 (pc := 339) dL_circles_339 rfl (by decide) rfl ?_
  refine wm_show (L' := [some (mvR 0), some (mvI 11), some (mvI 2), x3, x4]) rfl rfl rfl rfl ?_
  refine wm_iload_n hC 2 (pc := 340) dL_circles_340 rfl rfl ?_
  refine wm_if_eq hC 363 (pc := 341) dL_circles_341 (by decide) (by omega) (fun h => absurd h (by decide)) (fun _ => ?_)
  refine wm_iload_n hC 2 (pc := 344) dL_circles_344 rfl rfl ?_
  refine wm_iconst hC (pc := 345) dL_circles_345 ?_
  refine wm_icmp_eq hC 363 (pc := 346) dL_circles_346 (by decide) (by omega) (by omega) (fun _ => ?_) (fun h => absurd h (by decide))
  refine wm_iinc hC (v := 12) (pc := 363) dL_circles_363 rfl (by decide) (by decide) rfl ?_
  refine wm_show (L' := [some (mvR 0), some (mvI 12), some (mvI 2), x3, x4]) rfl rfl rfl rfl ?_
  refine wm_goto hC 330 (pc := 366) dL_circles_366 (by decide) ?_
  refine wm_iload_n hC 1 (pc := 330) dL_circles_330 rfl rfl ?_
  refine wm_bipush hC (pc := 331) dL_circles_331 (by decide) ?_
  refine wm_icmp_ge hC 369 (pc := 333) dL_circles_333 (by decide) (by omega) (by omega) (fun h => absurd h (by decide)) (fun _ => ?_)
  refine wm_iload_n hC 1 (pc := 336) dL_circles_336 rfl rfl ?_
  refine wm_iconst hC (pc := 337) dL_circles_337 ?_
  refine wm_idiv hC (pc := 338) dL_circles_338 (by omega) (by omega) ?_
  refine wm_eqI (y := 2) (by decide) ?_
  refine wm_istore_n hC 2 (pc := 339) dL_circles_339 rfl (by decide) rfl ?_
  refine wm_show (L' := [some (mvR 0), some (mvI 12), some (mvI 2), x3, x4]) rfl rfl rfl rfl ?_
  refine wm_iload_n hC 2 (pc := 340) dL_circles_340 rfl rfl ?_
  refine wm_if_eq hC 363 (pc := 341) dL_circles_341 (by decide) (by omega) (fun h => absurd h (by decide)) (fun _ => ?_)
  refine wm_iload_n hC 2 (pc := 344) dL_circles_344 rfl rfl ?_
  refine wm_iconst hC (pc := 345) dL_circles_345 ?_
  refine wm_icmp_eq hC 363 (pc := 346) dL_circles_346 (by decide) (by omega) (by omega) (fun _ => ?_) (fun h => absurd h (by decide))
  refine wm_iinc hC (v := 13) (pc := 363) dL_circles_363 rfl (by decide) (by decide) rfl ?_
  refine wm_show (L' := [some (mvR 0), some (mvI 13), some (mvI 2), x3, x4]) rfl rfl rfl rfl ?_
  refine wm_goto hC 330 (pc := 366) dL_circles_366 (by decide) ?_
  refine wm_iload_n hC 1 (pc := 330) dL_circles_330 rfl rfl ?_
  refine wm_bipush hC (pc := 331) dL_circles_331 (by decide) ?_
  refine wm_icmp_ge hC 369 (pc := 333) dL_circles_333 (by decide) (by omega) (by omega) (fun h => absurd h (by decide)) (fun _ => ?_)
  refine wm_iload_n hC 1 (pc := 336) dL_circles_336 rfl rfl ?_
  refine wm_iconst hC (pc := 337) dL_circles_337 ?_
  refine wm_idiv hC (pc := 338) dL_circles_338 (by omega) (by omega) ?_
  refine wm_eqI (y := 2) (by decide) ?_
  refine wm_istore_n hC 2 (pc := 339) dL_circles_339 rfl (by decide) rfl ?_
  refine wm_show (L' := [some (mvR 0), some (mvI 13), some (mvI 2), x3, x4]) rfl rfl rfl rfl ?_
  refine wm_iload_n hC 2 (pc := 340) dL_circles_340 rfl rfl ?_
  refine wm_if_eq hC 363 (pc := 341) dL_circles_341 (by decide) (by omega) (fun h => absurd h (by decide)) (fun _ => ?_)
  refine wm_iload_n hC 2 (pc := 344) dL_circles_344 rfl rfl ?_
  refine wm_iconst hC (pc := 345) dL_circles_345 ?_
  refine wm_icmp_eq hC 363 (pc := 346) dL_circles_346 (by decide) (by omega) (by omega) (fun _ => ?_) (fun h => absurd h (by decide))
  refine wm_iinc hC (v := 14) (pc := 363) dL_circles_363 rfl (by decide) (by decide) rfl ?_
  refine wm_show (L' := [some (mvR 0), some (mvI 14), some (mvI 2), x3, x4]) rfl rfl rfl rfl ?_
  refine wm_goto hC 330 (pc := 366) dL_circles_366 (by decide) ?_
  refine wm_iload_n hC 1 (pc := 330) dL_circles_330 rfl rfl ?_
  refine wm_bipush hC (pc := 331) dL_circles_331 (by decide) ?_
  refine wm_icmp_ge hC 369 (pc := 333) dL_circles_333 (by decide) (by omega) (by omega) (fun h => absurd h (by decide)) (fun _ => ?_)
  refine wm_iload_n hC 1 (pc := 336) dL_circles_336 rfl rfl ?_
  refine wm_iconst hC (pc := 337) dL_circles_337 ?_
  refine wm_idiv hC (pc := 338) dL_circles_338 (by omega) (by omega) ?_
  refine wm_eqI (y := 2) (by decide) ?_
  refine wm_istore_n hC 2 (pc := 339) dL_circles_339 rfl (by decide) rfl ?_
  refine wm_show (L' := [some (mvR 0), some (mvI 14), some (mvI 2), x3, x4]) rfl rfl rfl rfl ?_
  refine wm_iload_n hC 2 (pc := 340) dL_circles_340 rfl rfl ?_
  refine wm_if_eq hC 363 (pc := 341) dL_circles_341 (by decide) (by omega) (fun h => absurd h (by decide)) (fun _ => ?_)
  refine wm_iload_n hC 2 (pc := 344) dL_circles_344 rfl rfl ?_
  refine wm_iconst hC (pc := 345) dL_circles_345 ?_
  refine wm_icmp_eq hC 363 (pc := 346) dL_circles_346 (by decide) (by omega) (by omega) (fun _ => ?_) (fun h => absurd h (by decide))
  refine wm_iinc hC (v := 15) (pc := 363) dL_circles_363 rfl (by decide) (by decide) rfl ?_
  refine wm_show (L' := [some (mvR 0), some (mvI 15), some (mvI 2), x3, x4]) rfl rfl rfl rfl ?_
  refine wm_goto hC 330 (pc := 366) dL_circles_366 (by decide) ?_
  exact ciS12 hC hO none _ _ _
set_option maxRecDepth 100000 in
set_option maxHeartbeats 4000000 in
theorem ciS10 {l : Launch} {G : mG} {K : mK} {w : mW} {Hs : List Pn} (hC : mC G K 5 RL cL_circles (some .boolean)) (hO : Ob w (tb ciN75) Hs [] (fun _ => 0)) (x1 x2 x3 x4 : Option mV) : Wm l G K 9 5 (qI (fun z _ => z = 1)) 330 [some (mvR 0), some (mvI 5), x2, x3, x4] [] w := by
  refine wm_iload_n hC 1 (pc := 330) dL_circles_330 rfl rfl ?_
  refine wm_bipush hC (pc := 331) dL_circles_331 (by decide) ?_
  refine wm_icmp_ge hC 369 (pc := 333) dL_circles_333 (by decide) (by omega) (by omega) (fun h => absurd h (by decide)) (fun _ => ?_)
  refine wm_iload_n hC 1 (pc := 336) dL_circles_336 rfl rfl ?_
  refine wm_iconst hC (pc := 337) dL_circles_337 ?_
  refine wm_idiv hC (pc := 338) dL_circles_338 (by omega) (by omega) ?_
  refine wm_eqI (y := 1) (by decide) ?_
  refine wm_istore_n hC 2 (pc := 339) dL_circles_339 rfl (by decide) rfl ?_
  refine wm_show (L' := [some (mvR 0), some (mvI 5), some (mvI 1), x3, x4]) rfl rfl rfl rfl ?_
  refine wm_iload_n hC 2 (pc := 340) dL_circles_340 rfl rfl ?_
  refine wm_if_eq hC 363 (pc := 341) dL_circles_341 (by decide) (by omega) (fun h => absurd h (by decide)) (fun _ => ?_)
  refine wm_iload_n hC 2 (pc := 344) dL_circles_344 rfl rfl ?_
  refine wm_iconst hC (pc := 345) dL_circles_345 ?_
  refine wm_icmp_eq hC 363 (pc := 346) dL_circles_346 (by decide) (by omega) (by omega) (fun h => absurd h (by decide)) (fun _ => ?_)
  refine wm_aload_n hC 0 (pc := 349) dL_circles_349 rfl rfl ?_
  refine wm_iconst hC (pc := 350) dL_circles_350 ?_
  refine wm_iload_n hC 1 (pc := 351) dL_circles_351 rfl rfl ?_
  refine wm_iconst hC (pc := 352) dL_circles_352 ?_
  refine wm_irem hC (pc := 353) dL_circles_353 (by omega) (by omega) ?_
  refine wm_eqI (y := 0) (by decide) ?_
  refine wm_iload_n hC 2 (pc := 354) dL_circles_354 rfl rfl ?_
  refine wm_iV hC cv_L_36 kc_X8_erase rfl rfl (t_eraseV hO (by decide) civ161) rfl (by decide) rfl (Nat.le_of_ble_eq_true rfl) (pc := 355) dL_circles_355 (fun z355 w355 hw355 => ?_)
  obtain ⟨e355, hO⟩ := hw355
  replace e355 := e355.trans civ162
  subst e355
  have hO := hO.to civ163
  generalize push Hs (tb ciN75) = Hs at hO
  refine wm_if_ge hC 363 (pc := 358) dL_circles_358 (by decide) (by omega) (fun _ => ?_) (fun h => absurd h (by decide))
  refine wm_iinc hC (v := 6) (pc := 363) dL_circles_363 rfl (by decide) (by decide) rfl ?_
  refine wm_show (L' := [some (mvR 0), some (mvI 6), some (mvI 1), x3, x4]) rfl rfl rfl rfl ?_
  refine wm_goto hC 330 (pc := 366) dL_circles_366 (by decide) ?_
  refine wm_iload_n hC 1 (pc := 330) dL_circles_330 rfl rfl ?_
  refine wm_bipush hC (pc := 331) dL_circles_331 (by decide) ?_
  refine wm_icmp_ge hC 369 (pc := 333) dL_circles_333 (by decide) (by omega) (by omega) (fun h => absurd h (by decide)) (fun _ => ?_)
  refine wm_iload_n hC 1 (pc := 336) dL_circles_336 rfl rfl ?_
  refine wm_iconst hC (pc := 337) dL_circles_337 ?_
  refine wm_idiv hC (pc := 338) dL_circles_338 (by omega) (by omega) ?_
  refine wm_eqI (y := 1) (by decide) ?_
  refine wm_istore_n hC 2 (pc := 339) dL_circles_339 rfl (by decide) rfl ?_
  refine wm_show (L' := [some (mvR 0), some (mvI 6), some (mvI 1), x3, x4]) rfl rfl rfl rfl ?_
  refine wm_iload_n hC 2 (pc := 340) dL_circles_340 rfl rfl ?_
  refine wm_if_eq hC 363 (pc := 341) dL_circles_341 (by decide) (by omega) (fun h => absurd h (by decide)) (fun _ => ?_)
  refine wm_iload_n hC 2 (pc := 344) dL_circles_344 rfl rfl ?_
  refine wm_iconst hC (pc := 345) dL_circles_345 ?_
  refine wm_icmp_eq hC 363 (pc := 346) dL_circles_346 (by decide) (by omega) (by omega) (fun h => absurd h (by decide)) (fun _ => ?_)
  refine wm_aload_n hC 0 (pc := 349) dL_circles_349 rfl rfl ?_
  refine wm_iconst hC (pc := 350) dL_circles_350 ?_
  refine wm_iload_n hC 1 (pc := 351) dL_circles_351 rfl rfl ?_
  refine wm_iconst hC (pc := 352) dL_circles_352 ?_
  refine wm_irem hC (pc := 353) dL_circles_353 (by omega) (by omega) ?_
  refine wm_eqI (y := 1) (by decide) ?_
  refine wm_iload_n hC 2 (pc := 354) dL_circles_354 rfl rfl ?_
  refine wm_iV hC cv_L_36 kc_X8_erase rfl rfl (t_eraseV hO (by decide) civ164) rfl (by decide) rfl (Nat.le_of_ble_eq_true rfl) (pc := 355) dL_circles_355 (fun z355 w355 hw355 => ?_)
  obtain ⟨e355, hO⟩ := hw355
  replace e355 := e355.trans civ165
  subst e355
  have hO := hO.to civ166
  generalize push Hs (tb ciN76) = Hs at hO
  refine wm_if_ge hC 363 (pc := 358) dL_circles_358 (by decide) (by omega) (fun _ => ?_) (fun h => absurd h (by decide))
  refine wm_iinc hC (v := 7) (pc := 363) dL_circles_363 rfl (by decide) (by decide) rfl ?_
  refine wm_show (L' := [some (mvR 0), some (mvI 7), some (mvI 1), x3, x4]) rfl rfl rfl rfl ?_
  refine wm_goto hC 330 (pc := 366) dL_circles_366 (by decide) ?_
  refine wm_iload_n hC 1 (pc := 330) dL_circles_330 rfl rfl ?_
  refine wm_bipush hC (pc := 331) dL_circles_331 (by decide) ?_
  refine wm_icmp_ge hC 369 (pc := 333) dL_circles_333 (by decide) (by omega) (by omega) (fun h => absurd h (by decide)) (fun _ => ?_)
  refine wm_iload_n hC 1 (pc := 336) dL_circles_336 rfl rfl ?_
  refine wm_iconst hC (pc := 337) dL_circles_337 ?_
  refine wm_idiv hC (pc := 338) dL_circles_338 (by omega) (by omega) ?_
  refine wm_eqI (y := 1) (by decide) ?_
  refine wm_istore_n hC 2 (pc := 339) dL_circles_339 rfl (by decide) rfl ?_
  refine wm_show (L' := [some (mvR 0), some (mvI 7), some (mvI 1), x3, x4]) rfl rfl rfl rfl ?_
  refine wm_iload_n hC 2 (pc := 340) dL_circles_340 rfl rfl ?_
  refine wm_if_eq hC 363 (pc := 341) dL_circles_341 (by decide) (by omega) (fun h => absurd h (by decide)) (fun _ => ?_)
  refine wm_iload_n hC 2 (pc := 344) dL_circles_344 rfl rfl ?_
  refine wm_iconst hC (pc := 345) dL_circles_345 ?_
  refine wm_icmp_eq hC 363 (pc := 346) dL_circles_346 (by decide) (by omega) (by omega) (fun h => absurd h (by decide)) (fun _ => ?_)
  refine wm_aload_n hC 0 (pc := 349) dL_circles_349 rfl rfl ?_
  refine wm_iconst hC (pc := 350) dL_circles_350 ?_
  refine wm_iload_n hC 1 (pc := 351) dL_circles_351 rfl rfl ?_
  refine wm_iconst hC (pc := 352) dL_circles_352 ?_
  refine wm_irem hC (pc := 353) dL_circles_353 (by omega) (by omega) ?_
  refine wm_eqI (y := 2) (by decide) ?_
  refine wm_iload_n hC 2 (pc := 354) dL_circles_354 rfl rfl ?_
  refine wm_iV hC cv_L_36 kc_X8_erase rfl rfl (t_eraseV hO (by decide) civ167) rfl (by decide) rfl (Nat.le_of_ble_eq_true rfl) (pc := 355) dL_circles_355 (fun z355 w355 hw355 => ?_)
  obtain ⟨e355, hO⟩ := hw355
  replace e355 := e355.trans civ168
  subst e355
  have hO := hO.to civ169
  generalize push Hs (tb ciN77) = Hs at hO
  refine wm_if_ge hC 363 (pc := 358) dL_circles_358 (by decide) (by omega) (fun _ => ?_) (fun h => absurd h (by decide))
  refine wm_iinc hC (v := 8) (pc := 363) dL_circles_363 rfl (by decide) (by decide) rfl ?_
  refine wm_show (L' := [some (mvR 0), some (mvI 8), some (mvI 1), x3, x4]) rfl rfl rfl rfl ?_
  refine wm_goto hC 330 (pc := 366) dL_circles_366 (by decide) ?_
  refine wm_iload_n hC 1 (pc := 330) dL_circles_330 rfl rfl ?_
  refine wm_bipush hC (pc := 331) dL_circles_331 (by decide) ?_
  refine wm_icmp_ge hC 369 (pc := 333) dL_circles_333 (by decide) (by omega) (by omega) (fun h => absurd h (by decide)) (fun _ => ?_)
  refine wm_iload_n hC 1 (pc := 336) dL_circles_336 rfl rfl ?_
  refine wm_iconst hC (pc := 337) dL_circles_337 ?_
  refine wm_idiv hC (pc := 338) dL_circles_338 (by omega) (by omega) ?_
  refine wm_eqI (y := 1) (by decide) ?_
  refine wm_istore_n hC 2 (pc := 339) dL_circles_339 rfl (by decide) rfl ?_
  refine wm_show (L' := [some (mvR 0), some (mvI 8), some (mvI 1), x3, x4]) rfl rfl rfl rfl ?_
  refine wm_iload_n hC 2 (pc := 340) dL_circles_340 rfl rfl ?_
  refine wm_if_eq hC 363 (pc := 341) dL_circles_341 (by decide) (by omega) (fun h => absurd h (by decide)) (fun _ => ?_)
  refine wm_iload_n hC 2 (pc := 344) dL_circles_344 rfl rfl ?_
  refine wm_iconst hC (pc := 345) dL_circles_345 ?_
  refine wm_icmp_eq hC 363 (pc := 346) dL_circles_346 (by decide) (by omega) (by omega) (fun h => absurd h (by decide)) (fun _ => ?_)
  refine wm_aload_n hC 0 (pc := 349) dL_circles_349 rfl rfl ?_
  refine wm_iconst hC (pc := 350) dL_circles_350 ?_
  refine wm_iload_n hC 1 (pc := 351) dL_circles_351 rfl rfl ?_
  refine wm_iconst hC (pc := 352) dL_circles_352 ?_
  refine wm_irem hC (pc := 353) dL_circles_353 (by omega) (by omega) ?_
  refine wm_eqI (y := 3) (by decide) ?_
  refine wm_iload_n hC 2 (pc := 354) dL_circles_354 rfl rfl ?_
  refine wm_iV hC cv_L_36 kc_X8_erase rfl rfl (t_eraseV hO (by decide) civ170) rfl (by decide) rfl (Nat.le_of_ble_eq_true rfl) (pc := 355) dL_circles_355 (fun z355 w355 hw355 => ?_)
  obtain ⟨e355, hO⟩ := hw355
  replace e355 := e355.trans civ171
  subst e355
  have hO := hO.to civ172
  generalize push Hs (tb ciN78) = Hs at hO
  refine wm_if_ge hC 363 (pc := 358) dL_circles_358 (by decide) (by omega) (fun _ => ?_) (fun h => absurd h (by decide))
  refine wm_iinc hC (v := 9) (pc := 363) dL_circles_363 rfl (by decide) (by decide) rfl ?_
  refine wm_show (L' := [some (mvR 0), some (mvI 9), some (mvI 1), x3, x4]) rfl rfl rfl rfl ?_
  refine wm_goto hC 330 (pc := 366) dL_circles_366 (by decide) ?_
  refine wm_iload_n hC 1 (pc := 330) dL_circles_330 rfl rfl ?_
  refine wm_bipush hC (pc := 331) dL_circles_331 (by decide) ?_
  refine wm_icmp_ge hC 369 (pc := 333) dL_circles_333 (by decide) (by omega) (by omega) (fun h => absurd h (by decide)) (fun _ => ?_)
  refine wm_iload_n hC 1 (pc := 336) dL_circles_336 rfl rfl ?_
  refine wm_iconst hC (pc := 337) dL_circles_337 ?_
  refine wm_idiv hC (pc := 338) dL_circles_338 (by omega) (by omega) ?_
  refine wm_eqI (y := 1) (by decide) ?_
  refine wm_istore_n hC 2 (pc := 339) dL_circles_339 rfl (by decide) rfl ?_
  refine wm_show (L' := [some (mvR 0), some (mvI 9), some (mvI 1), x3, x4]) rfl rfl rfl rfl ?_
  refine wm_iload_n hC 2 (pc := 340) dL_circles_340 rfl rfl ?_
  refine wm_if_eq hC 363 (pc := 341) dL_circles_341 (by decide) (by omega) (fun h => absurd h (by decide)) (fun _ => ?_)
  refine wm_iload_n hC 2 (pc := 344) dL_circles_344 rfl rfl ?_
  refine wm_iconst hC (pc := 345) dL_circles_345 ?_
  refine wm_icmp_eq hC 363 (pc := 346) dL_circles_346 (by decide) (by omega) (by omega) (fun h => absurd h (by decide)) (fun _ => ?_)
  refine wm_aload_n hC 0 (pc := 349) dL_circles_349 rfl rfl ?_
  refine wm_iconst hC (pc := 350) dL_circles_350 ?_
  refine wm_iload_n hC 1 (pc := 351) dL_circles_351 rfl rfl ?_
  refine wm_iconst hC (pc := 352) dL_circles_352 ?_
  refine wm_irem hC (pc := 353) dL_circles_353 (by omega) (by omega) ?_
  refine wm_eqI (y := 4) (by decide) ?_
  refine wm_iload_n hC 2 (pc := 354) dL_circles_354 rfl rfl ?_
  refine wm_iV hC cv_L_36 kc_X8_erase rfl rfl (t_eraseV hO (by decide) civ173) rfl (by decide) rfl (Nat.le_of_ble_eq_true rfl) (pc := 355) dL_circles_355 (fun z355 w355 hw355 => ?_)
  obtain ⟨e355, hO⟩ := hw355
  replace e355 := e355.trans civ174
  subst e355
  have hO := hO.to civ175
  generalize push Hs (tb ciN79) = Hs at hO
  refine wm_if_ge hC 363 (pc := 358) dL_circles_358 (by decide) (by omega) (fun _ => ?_) (fun h => absurd h (by decide))
  refine wm_iinc hC (v := 10) (pc := 363) dL_circles_363 rfl (by decide) (by decide) rfl ?_
  refine wm_show (L' := [some (mvR 0), some (mvI 10), some (mvI 1), x3, x4]) rfl rfl rfl rfl ?_
  refine wm_goto hC 330 (pc := 366) dL_circles_366 (by decide) ?_
  exact ciS11 hC hO none _ _ _
set_option maxRecDepth 100000 in
set_option maxHeartbeats 4000000 in
theorem ciS9 {l : Launch} {G : mG} {K : mK} {w : mW} {Hs : List Pn} (hC : mC G K 5 RL cL_circles (some .boolean)) (hO : Ob w (tb ciN75) Hs [] (fun _ => 0)) (x1 x2 x3 x4 : Option mV) : Wm l G K 9 5 (qI (fun z _ => z = 1)) 330 [some (mvR 0), some (mvI 0), x2, x3, x4] [] w := by
  refine wm_iload_n hC 1 (pc := 330) dL_circles_330 rfl rfl ?_
  refine wm_bipush hC (pc := 331) dL_circles_331 (by decide) ?_
  refine wm_icmp_ge hC 369 (pc := 333) dL_circles_333 (by decide) (by omega) (by omega) (fun h => absurd h (by decide)) (fun _ => ?_)
  refine wm_iload_n hC 1 (pc := 336) dL_circles_336 rfl rfl ?_
  refine wm_iconst hC (pc := 337) dL_circles_337 ?_
  refine wm_idiv hC (pc := 338) dL_circles_338 (by omega) (by omega) ?_
  refine wm_eqI (y := 0) (by decide) ?_
  refine wm_istore_n hC 2 (pc := 339) dL_circles_339 rfl (by decide) rfl ?_
  refine wm_show (L' := [some (mvR 0), some (mvI 0), some (mvI 0), x3, x4]) rfl rfl rfl rfl ?_
  refine wm_iload_n hC 2 (pc := 340) dL_circles_340 rfl rfl ?_
  refine wm_if_eq hC 363 (pc := 341) dL_circles_341 (by decide) (by omega) (fun _ => ?_) (fun h => absurd h (by decide))
  refine wm_iinc hC (v := 1) (pc := 363) dL_circles_363 rfl (by decide) (by decide) rfl ?_
  refine wm_show (L' := [some (mvR 0), some (mvI 1), some (mvI 0), x3, x4]) rfl rfl rfl rfl ?_
  refine wm_goto hC 330 (pc := 366) dL_circles_366 (by decide) ?_
  refine wm_iload_n hC 1 (pc := 330) dL_circles_330 rfl rfl ?_
  refine wm_bipush hC (pc := 331) dL_circles_331 (by decide) ?_
  refine wm_icmp_ge hC 369 (pc := 333) dL_circles_333 (by decide) (by omega) (by omega) (fun h => absurd h (by decide)) (fun _ => ?_)
  refine wm_iload_n hC 1 (pc := 336) dL_circles_336 rfl rfl ?_
  refine wm_iconst hC (pc := 337) dL_circles_337 ?_
  refine wm_idiv hC (pc := 338) dL_circles_338 (by omega) (by omega) ?_
  refine wm_eqI (y := 0) (by decide) ?_
  refine wm_istore_n hC 2 (pc := 339) dL_circles_339 rfl (by decide) rfl ?_
  refine wm_show (L' := [some (mvR 0), some (mvI 1), some (mvI 0), x3, x4]) rfl rfl rfl rfl ?_
  refine wm_iload_n hC 2 (pc := 340) dL_circles_340 rfl rfl ?_
  refine wm_if_eq hC 363 (pc := 341) dL_circles_341 (by decide) (by omega) (fun _ => ?_) (fun h => absurd h (by decide))
  refine wm_iinc hC (v := 2) (pc := 363) dL_circles_363 rfl (by decide) (by decide) rfl ?_
  refine wm_show (L' := [some (mvR 0), some (mvI 2), some (mvI 0), x3, x4]) rfl rfl rfl rfl ?_
  refine wm_goto hC 330 (pc := 366) dL_circles_366 (by decide) ?_
  refine wm_iload_n hC 1 (pc := 330) dL_circles_330 rfl rfl ?_
  refine wm_bipush hC (pc := 331) dL_circles_331 (by decide) ?_
  refine wm_icmp_ge hC 369 (pc := 333) dL_circles_333 (by decide) (by omega) (by omega) (fun h => absurd h (by decide)) (fun _ => ?_)
  refine wm_iload_n hC 1 (pc := 336) dL_circles_336 rfl rfl ?_
  refine wm_iconst hC (pc := 337) dL_circles_337 ?_
  refine wm_idiv hC (pc := 338) dL_circles_338 (by omega) (by omega) ?_
  refine wm_eqI (y := 0) (by decide) ?_
  refine wm_istore_n hC 2 (pc := 339) dL_circles_339 rfl (by decide) rfl ?_
  refine wm_show (L' := [some (mvR 0), some (mvI 2), some (mvI 0), x3, x4]) rfl rfl rfl rfl ?_
  refine wm_iload_n hC 2 (pc := 340) dL_circles_340 rfl rfl ?_
  refine wm_if_eq hC 363 (pc := 341) dL_circles_341 (by decide) (by omega) (fun _ => ?_) (fun h => absurd h (by decide))
  refine wm_iinc hC (v := 3) (pc := 363) dL_circles_363 rfl (by decide) (by decide) rfl ?_
  refine wm_show (L' := [some (mvR 0), some (mvI 3), some (mvI 0), x3, x4]) rfl rfl rfl rfl ?_
  refine wm_goto hC 330 (pc := 366) dL_circles_366 (by decide) ?_
  refine wm_iload_n hC 1 (pc := 330) dL_circles_330 rfl rfl ?_
  refine wm_bipush hC (pc := 331) dL_circles_331 (by decide) ?_
  refine wm_icmp_ge hC 369 (pc := 333) dL_circles_333 (by decide) (by omega) (by omega) (fun h => absurd h (by decide)) (fun _ => ?_)
  refine wm_iload_n hC 1 (pc := 336) dL_circles_336 rfl rfl ?_
  refine wm_iconst hC (pc := 337) dL_circles_337 ?_
  refine wm_idiv hC (pc := 338) dL_circles_338 (by omega) (by omega) ?_
  refine wm_eqI (y := 0) (by decide) ?_
  refine wm_istore_n hC 2 (pc := 339) dL_circles_339 rfl (by decide) rfl ?_
  refine wm_show (L' := [some (mvR 0), some (mvI 3), some (mvI 0), x3, x4]) rfl rfl rfl rfl ?_
  refine wm_iload_n hC 2 (pc := 340) dL_circles_340 rfl rfl ?_
  refine wm_if_eq hC 363 (pc := 341) dL_circles_341 (by decide) (by omega) (fun _ => ?_) (fun h => absurd h (by decide))
  refine wm_iinc hC (v := 4) (pc := 363) dL_circles_363 rfl (by decide) (by decide) rfl ?_
  refine wm_show (L' := [some (mvR 0), some (mvI 4), some (mvI 0), x3, x4]) rfl rfl rfl rfl ?_
  refine wm_goto hC 330 (pc := 366) dL_circles_366 (by decide) ?_
  refine wm_iload_n hC 1 (pc := 330) dL_circles_330 rfl rfl ?_
  refine wm_bipush hC (pc := 331) dL_circles_331 (by decide) ?_
  refine wm_icmp_ge hC 369 (pc := 333) dL_circles_333 (by decide) (by omega) (by omega) (fun h => absurd h (by decide)) (fun _ => ?_)
  refine wm_iload_n hC 1 (pc := 336) dL_circles_336 rfl rfl ?_
  refine wm_iconst hC (pc := 337) dL_circles_337 ?_
  refine wm_idiv hC (pc := 338) dL_circles_338 (by omega) (by omega) ?_
  refine wm_eqI (y := 0) (by decide) ?_
  refine wm_istore_n hC 2 (pc := 339) dL_circles_339 rfl (by decide) rfl ?_
  refine wm_show (L' := [some (mvR 0), some (mvI 4), some (mvI 0), x3, x4]) rfl rfl rfl rfl ?_
  refine wm_iload_n hC 2 (pc := 340) dL_circles_340 rfl rfl ?_
  refine wm_if_eq hC 363 (pc := 341) dL_circles_341 (by decide) (by omega) (fun _ => ?_) (fun h => absurd h (by decide))
  refine wm_iinc hC (v := 5) (pc := 363) dL_circles_363 rfl (by decide) (by decide) rfl ?_
  refine wm_show (L' := [some (mvR 0), some (mvI 5), some (mvI 0), x3, x4]) rfl rfl rfl rfl ?_
  refine wm_goto hC 330 (pc := 366) dL_circles_366 (by decide) ?_
  exact ciS10 hC hO none _ _ _
set_option maxRecDepth 100000 in
set_option maxHeartbeats 4000000 in
theorem ciS8 {l : Launch} {G : mG} {K : mK} {w : mW} {Hs : List Pn} (hC : mC G K 5 RL cL_circles (some .boolean)) (hO : Ob w (tb ciN75) Hs [] (fun _ => 0)) (x1 x2 x3 x4 : Option mV) : Wm l G K 9 5 (qI (fun z _ => z = 1)) 201 [some (mvR 0), x1, x2, x3, x4] [] w := by
  refine wm_aload_n hC 0 (pc := 201) dL_circles_201 rfl rfl ?_
  refine wm_iconst hC (pc := 202) dL_circles_202 ?_
  refine wm_iconst hC (pc := 203) dL_circles_203 ?_
  refine wm_iconst hC (pc := 204) dL_circles_204 ?_
  refine wm_iV hC cv_L_19 kc_X8_talk rfl rfl (t_talkW hO (by decide)) rfl (by decide) rfl (Nat.le_of_ble_eq_true rfl) (pc := 205) dL_circles_205 (fun z205 w205 hw205 => ?_)
  obtain ⟨e205, hO⟩ := hw205
  replace e205 := e205.trans civ151
  subst e205
  refine wm_bipush hC (pc := 208) dL_circles_208 (by decide) ?_
  refine wm_icmp_ne hC 326 (pc := 210) dL_circles_210 (by decide) (by omega) (by omega) (fun h => absurd h (by decide)) (fun _ => ?_)
  refine wm_aload_n hC 0 (pc := 213) dL_circles_213 rfl rfl ?_
  refine wm_iconst hC (pc := 214) dL_circles_214 ?_
  refine wm_iconst hC (pc := 215) dL_circles_215 ?_
  refine wm_iconst hC (pc := 216) dL_circles_216 ?_
  refine wm_iV hC cv_L_19 kc_X8_talk rfl rfl (t_talkW hO (by decide)) rfl (by decide) rfl (Nat.le_of_ble_eq_true rfl) (pc := 217) dL_circles_217 (fun z217 w217 hw217 => ?_)
  obtain ⟨e217, hO⟩ := hw217
  replace e217 := e217.trans civ152
  subst e217
  refine wm_bipush hC (pc := 220) dL_circles_220 (by decide) ?_
  refine wm_icmp_ne hC 326 (pc := 222) dL_circles_222 (by decide) (by omega) (by omega) (fun h => absurd h (by decide)) (fun _ => ?_)
  refine wm_aload_n hC 0 (pc := 225) dL_circles_225 rfl rfl ?_
  refine wm_iconst hC (pc := 226) dL_circles_226 ?_
  refine wm_iconst hC (pc := 227) dL_circles_227 ?_
  refine wm_iconst hC (pc := 228) dL_circles_228 ?_
  refine wm_iV hC cv_L_19 kc_X8_talk rfl rfl (t_talkW hO (by decide)) rfl (by decide) rfl (Nat.le_of_ble_eq_true rfl) (pc := 229) dL_circles_229 (fun z229 w229 hw229 => ?_)
  obtain ⟨e229, hO⟩ := hw229
  replace e229 := e229.trans civ153
  subst e229
  refine wm_iconst hC (pc := 232) dL_circles_232 ?_
  refine wm_icmp_ne hC 326 (pc := 233) dL_circles_233 (by decide) (by omega) (by omega) (fun h => absurd h (by decide)) (fun _ => ?_)
  refine wm_aload_n hC 0 (pc := 236) dL_circles_236 rfl rfl ?_
  refine wm_iconst hC (pc := 237) dL_circles_237 ?_
  refine wm_iconst hC (pc := 238) dL_circles_238 ?_
  refine wm_iconst hC (pc := 239) dL_circles_239 ?_
  refine wm_iV hC cv_L_19 kc_X8_talk rfl rfl (t_talkW hO (by decide)) rfl (by decide) rfl (Nat.le_of_ble_eq_true rfl) (pc := 240) dL_circles_240 (fun z240 w240 hw240 => ?_)
  obtain ⟨e240, hO⟩ := hw240
  replace e240 := e240.trans civ154
  subst e240
  refine wm_if_ne hC 326 (pc := 243) dL_circles_243 (by decide) (by omega) (fun h => absurd h (by decide)) (fun _ => ?_)
  refine wm_aload_n hC 0 (pc := 246) dL_circles_246 rfl rfl ?_
  refine wm_iconst hC (pc := 247) dL_circles_247 ?_
  refine wm_iconst hC (pc := 248) dL_circles_248 ?_
  refine wm_iconst hC (pc := 249) dL_circles_249 ?_
  refine wm_iV hC cv_L_19 kc_X8_talk rfl rfl (t_talkW hO (by decide)) rfl (by decide) rfl (Nat.le_of_ble_eq_true rfl) (pc := 250) dL_circles_250 (fun z250 w250 hw250 => ?_)
  obtain ⟨e250, hO⟩ := hw250
  replace e250 := e250.trans civ155
  subst e250
  refine wm_bipush hC (pc := 253) dL_circles_253 (by decide) ?_
  refine wm_icmp_ne hC 326 (pc := 255) dL_circles_255 (by decide) (by omega) (by omega) (fun h => absurd h (by decide)) (fun _ => ?_)
  refine wm_aload_n hC 0 (pc := 258) dL_circles_258 rfl rfl ?_
  refine wm_iconst hC (pc := 259) dL_circles_259 ?_
  refine wm_iconst hC (pc := 260) dL_circles_260 ?_
  refine wm_jV hC cv_L_56 kc_X8_talks rfl rfl (t_talksW hO (by decide)) rfl (by decide) rfl (Nat.le_of_ble_eq_true rfl) (pc := 261) dL_circles_261 (fun z261 w261 hw261 => ?_)
  obtain ⟨e261, hO⟩ := hw261
  replace e261 := e261.trans civ156
  subst e261
  refine wm_ldc2 hC (-1000003) kJ_L_144 (pc := 264) dL_circles_264 ?_
  refine wm_lcmp_eq hC (pc := 267) dL_circles_267 rfl ?_
  refine wm_if_ne hC 326 (pc := 268) dL_circles_268 (by decide) (by omega) (fun h => absurd h (by decide)) (fun _ => ?_)
  refine wm_aload_n hC 0 (pc := 271) dL_circles_271 rfl rfl ?_
  refine wm_iconst hC (pc := 272) dL_circles_272 ?_
  refine wm_iconst hC (pc := 273) dL_circles_273 ?_
  refine wm_jV hC cv_L_56 kc_X8_talks rfl rfl (t_talksW hO (by decide)) rfl (by decide) rfl (Nat.le_of_ble_eq_true rfl) (pc := 274) dL_circles_274 (fun z274 w274 hw274 => ?_)
  obtain ⟨e274, hO⟩ := hw274
  replace e274 := e274.trans civ157
  subst e274
  refine wm_ldc2 hC (-1000003) kJ_L_144 (pc := 277) dL_circles_277 ?_
  refine wm_lcmp_eq hC (pc := 280) dL_circles_280 rfl ?_
  refine wm_if_ne hC 326 (pc := 281) dL_circles_281 (by decide) (by omega) (fun h => absurd h (by decide)) (fun _ => ?_)
  refine wm_aload_n hC 0 (pc := 284) dL_circles_284 rfl rfl ?_
  refine wm_iconst hC (pc := 285) dL_circles_285 ?_
  refine wm_iconst hC (pc := 286) dL_circles_286 ?_
  refine wm_bipush hC (pc := 287) dL_circles_287 (by decide) ?_
  refine wm_bipush hC (pc := 289) dL_circles_289 (by decide) ?_
  refine wm_iV hC cv_L_52 kc_X8_pairOf rfl rfl (t_pairOfV hO (by decide) (by decide)) rfl (by decide) rfl (Nat.le_of_ble_eq_true rfl) (pc := 291) dL_circles_291 (fun z291 w291 hw291 => ?_)
  obtain ⟨e291, hO⟩ := hw291
  replace e291 := e291.trans civ158
  subst e291
  refine wm_if_ne hC 326 (pc := 294) dL_circles_294 (by decide) (by omega) (fun h => absurd h (by decide)) (fun _ => ?_)
  refine wm_aload_n hC 0 (pc := 297) dL_circles_297 rfl rfl ?_
  refine wm_iconst hC (pc := 298) dL_circles_298 ?_
  refine wm_iconst hC (pc := 299) dL_circles_299 ?_
  refine wm_bipush hC (pc := 300) dL_circles_300 (by decide) ?_
  refine wm_bipush hC (pc := 302) dL_circles_302 (by decide) ?_
  refine wm_iV hC cv_L_52 kc_X8_pairOf rfl rfl (t_pairOfV hO (by decide) (by decide)) rfl (by decide) rfl (Nat.le_of_ble_eq_true rfl) (pc := 304) dL_circles_304 (fun z304 w304 hw304 => ?_)
  obtain ⟨e304, hO⟩ := hw304
  replace e304 := e304.trans civ159
  subst e304
  refine wm_iconst hC (pc := 307) dL_circles_307 ?_
  refine wm_icmp_ne hC 326 (pc := 308) dL_circles_308 (by decide) (by omega) (by omega) (fun h => absurd h (by decide)) (fun _ => ?_)
  refine wm_aload_n hC 0 (pc := 311) dL_circles_311 rfl rfl ?_
  refine wm_iconst hC (pc := 312) dL_circles_312 ?_
  refine wm_iconst hC (pc := 313) dL_circles_313 ?_
  refine wm_bipush hC (pc := 314) dL_circles_314 (by decide) ?_
  refine wm_bipush hC (pc := 316) dL_circles_316 (by decide) ?_
  refine wm_iV hC cv_L_52 kc_X8_pairOf rfl rfl (t_pairOfV hO (by decide) (by decide)) rfl (by decide) rfl (Nat.le_of_ble_eq_true rfl) (pc := 318) dL_circles_318 (fun z318 w318 hw318 => ?_)
  obtain ⟨e318, hO⟩ := hw318
  replace e318 := e318.trans civ160
  subst e318
  refine wm_ldc hC (-1000004) kI_L_55 (pc := 321) dL_circles_321 ?_
  refine wm_icmp_eq hC 328 (pc := 323) dL_circles_323 (by decide) (by omega) (by omega) (fun _ => ?_) (fun h => absurd h (by decide))
  refine wm_iconst hC (pc := 328) dL_circles_328 ?_
  refine wm_istore_n hC 1 (pc := 329) dL_circles_329 rfl (by decide) rfl ?_
  refine wm_show (L' := [some (mvR 0), some (mvI 0), x2, x3, x4]) rfl rfl rfl rfl ?_
  exact ciS9 hC hO none _ _ _
set_option maxRecDepth 100000 in
set_option maxHeartbeats 4000000 in
theorem ciS7 {l : Launch} {G : mG} {K : mK} {w : mW} {Hs : List Pn} (hC : mC G K 5 RL cL_circles (some .boolean)) (hO : Ob w (tb ciN75) Hs [] (fun _ => 0)) (x1 x2 x3 x4 : Option mV) : Wm l G K 9 5 (qI (fun z _ => z = 1)) 10 [some (mvR 0), some (mvI 7), x2, x3, x4] [] w := by
  refine wm_iload_n hC 1 (pc := 10) dL_circles_10 rfl rfl ?_
  refine wm_bipush hC (pc := 11) dL_circles_11 (by decide) ?_
  refine wm_icmp_ge hC 201 (pc := 13) dL_circles_13 (by decide) (by omega) (by omega) (fun _ => ?_) (fun h => absurd h (by decide))
  exact ciS8 hC hO _ _ _ _
set_option maxRecDepth 100000 in
set_option maxHeartbeats 4000000 in
theorem ciS6 {l : Launch} {G : mG} {K : mK} {w : mW} {Hs : List Pn} (hC : mC G K 5 RL cL_circles (some .boolean)) (hO : Ob w (tb ciN71) Hs [] (fun _ => 0)) (x1 x2 x3 x4 : Option mV) : Wm l G K 9 5 (qI (fun z _ => z = 1)) 10 [some (mvR 0), some (mvI 6), x2, x3, x4] [] w := by
  refine wm_iload_n hC 1 (pc := 10) dL_circles_10 rfl rfl ?_
  refine wm_bipush hC (pc := 11) dL_circles_11 (by decide) ?_
  refine wm_icmp_ge hC 201 (pc := 13) dL_circles_13 (by decide) (by omega) (by omega) (fun h => absurd h (by decide)) (fun _ => ?_)
  refine wm_aload_n hC 0 (pc := 16) dL_circles_16 rfl rfl ?_
  refine wm_iconst hC (pc := 17) dL_circles_17 ?_
  refine wm_iload_n hC 1 (pc := 18) dL_circles_18 rfl rfl ?_
  refine wm_iconst hC (pc := 19) dL_circles_19 ?_
  refine wm_iV hC cv_L_26 kc_X8_kind rfl rfl (t_kindV hO (by decide)) rfl (by decide) rfl (Nat.le_of_ble_eq_true rfl) (pc := 20) dL_circles_20 (fun z20 w20 hw20 => ?_)
  obtain ⟨e20, hO⟩ := hw20
  replace e20 := e20.trans civ143
  subst e20
  have hO := hO.to civ144
  generalize push Hs (tb ciN71) = Hs at hO
  refine wm_if_ne hC 42 (pc := 23) dL_circles_23 (by decide) (by omega) (fun h => absurd h (by decide)) (fun _ => ?_)
  refine wm_iload_n hC 1 (pc := 26) dL_circles_26 rfl rfl ?_
  refine wm_bipush hC (pc := 27) dL_circles_27 (by decide) ?_
  refine wm_icmp_ge hC 44 (pc := 29) dL_circles_29 (by decide) (by omega) (by omega) (fun _ => ?_) (fun h => absurd h (by decide))
  refine wm_iconst hC (pc := 44) dL_circles_44 ?_
  refine wm_istore_n hC 2 (pc := 45) dL_circles_45 rfl (by decide) rfl ?_
  refine wm_show (L' := [some (mvR 0), some (mvI 6), some (mvI 0), x3, x4]) rfl rfl rfl rfl ?_
  refine wm_iload_n hC 2 (pc := 46) dL_circles_46 rfl rfl ?_
  refine wm_bipush hC (pc := 47) dL_circles_47 (by decide) ?_
  refine wm_icmp_ge hC 195 (pc := 49) dL_circles_49 (by decide) (by omega) (by omega) (fun h => absurd h (by decide)) (fun _ => ?_)
  refine wm_iload_n hC 1 (pc := 52) dL_circles_52 rfl rfl ?_
  refine wm_bipush hC (pc := 53) dL_circles_53 (by decide) ?_
  refine wm_icmp_ge hC 71 (pc := 55) dL_circles_55 (by decide) (by omega) (by omega) (fun _ => ?_) (fun h => absurd h (by decide))
  refine wm_iload_n hC 2 (pc := 71) dL_circles_71 rfl rfl ?_
  refine wm_iconst hC (pc := 72) dL_circles_72 ?_
  refine wm_icmp_lt hC 81 (pc := 73) dL_circles_73 (by decide) (by omega) (by omega) (fun _ => ?_) (fun h => absurd h (by decide))
  refine wm_iconst hC (pc := 81) dL_circles_81 ?_
  refine wm_goto hC 86 (pc := 82) dL_circles_82 (by decide) ?_
  refine wm_istore_n hC 3 (pc := 86) dL_circles_86 rfl (by decide) rfl ?_
  refine wm_show (L' := [some (mvR 0), some (mvI 6), some (mvI 0), some (mvI 1), x4]) rfl rfl rfl rfl ?_
  refine wm_iload_n hC 3 (pc := 87) dL_circles_87 rfl rfl ?_
  refine wm_if_eq hC 120 (pc := 88) dL_circles_88 (by decide) (by omega) (fun h => absurd h (by decide)) (fun _ => ?_)
  refine wm_aload_n hC 0 (pc := 91) dL_circles_91 rfl rfl ?_
  refine wm_iconst hC (pc := 92) dL_circles_92 ?_
  refine wm_iload_n hC 1 (pc := 93) dL_circles_93 rfl rfl ?_
  refine wm_iload_n hC 2 (pc := 94) dL_circles_94 rfl rfl ?_
  refine wm_iload_n hC 2 (pc := 95) dL_circles_95 rfl rfl ?_
  refine wm_iconst hC (pc := 96) dL_circles_96 ?_
  refine wm_icmp_ne hC 105 (pc := 97) dL_circles_97 (by decide) (by omega) (by omega) (fun _ => ?_) (fun h => absurd h (by decide))
  refine wm_iload_n hC 1 (pc := 105) dL_circles_105 rfl rfl ?_
  refine wm_iconst hC (pc := 106) dL_circles_106 ?_
  refine wm_iadd hC (pc := 107) dL_circles_107 ?_
  refine wm_eqI (y := 7) (by decide) ?_
  refine wm_bipush hC (pc := 108) dL_circles_108 (by decide) ?_
  refine wm_irem hC (pc := 110) dL_circles_110 (by omega) (by omega) ?_
  refine wm_eqI (y := 0) (by decide) ?_
  refine wm_iV hC cv_L_32 kc_X8_arrow rfl rfl (t_arrowV hO (by decide)) rfl (by decide) rfl (Nat.le_of_ble_eq_true rfl) (pc := 111) dL_circles_111 (fun z111 w111 hw111 => ?_)
  obtain ⟨e111, hO⟩ := hw111
  replace e111 := e111.trans civ145
  subst e111
  have hO := hO.to civ146
  generalize push Hs (tb ciN72) = Hs at hO
  refine wm_iconst hC (pc := 114) dL_circles_114 ?_
  refine wm_icmp_ge hC 120 (pc := 115) dL_circles_115 (by decide) (by omega) (by omega) (fun _ => ?_) (fun h => absurd h (by decide))
  refine wm_iload_n hC 1 (pc := 120) dL_circles_120 rfl rfl ?_
  refine wm_iconst hC (pc := 121) dL_circles_121 ?_
  refine wm_icmp_ge hC 138 (pc := 122) dL_circles_122 (by decide) (by omega) (by omega) (fun _ => ?_) (fun h => absurd h (by decide))
  refine wm_iload_n hC 1 (pc := 138) dL_circles_138 rfl rfl ?_
  refine wm_iconst hC (pc := 139) dL_circles_139 ?_
  refine wm_icmp_ne hC 152 (pc := 140) dL_circles_140 (by decide) (by omega) (by omega) (fun _ => ?_) (fun h => absurd h (by decide))
  refine wm_iconst hC (pc := 152) dL_circles_152 ?_
  refine wm_istore hC  (pc := 153) dL_circles_153  (by decide) rfl ?_
  refine wm_show (L' := [some (mvR 0), some (mvI 6), some (mvI 0), some (mvI 1), some (mvI 0)]) rfl rfl rfl rfl ?_
  refine wm_iload hC  (pc := 155) dL_circles_155 rfl ?_
  refine wm_if_eq hC 189 (pc := 157) dL_circles_157 (by decide) (by omega) (fun _ => ?_) (fun h => absurd h (by decide))
  refine wm_iinc hC (v := 1) (pc := 189) dL_circles_189 rfl (by decide) (by decide) rfl ?_
  refine wm_show (L' := [some (mvR 0), some (mvI 6), some (mvI 1), some (mvI 1), some (mvI 0)]) rfl rfl rfl rfl ?_
  refine wm_goto hC 46 (pc := 192) dL_circles_192 (by decide) ?_
  refine wm_iload_n hC 2 (pc := 46) dL_circles_46 rfl rfl ?_
  refine wm_bipush hC (pc := 47) dL_circles_47 (by decide) ?_
  refine wm_icmp_ge hC 195 (pc := 49) dL_circles_49 (by decide) (by omega) (by omega) (fun h => absurd h (by decide)) (fun _ => ?_)
  refine wm_iload_n hC 1 (pc := 52) dL_circles_52 rfl rfl ?_
  refine wm_bipush hC (pc := 53) dL_circles_53 (by decide) ?_
  refine wm_icmp_ge hC 71 (pc := 55) dL_circles_55 (by decide) (by omega) (by omega) (fun _ => ?_) (fun h => absurd h (by decide))
  refine wm_iload_n hC 2 (pc := 71) dL_circles_71 rfl rfl ?_
  refine wm_iconst hC (pc := 72) dL_circles_72 ?_
  refine wm_icmp_lt hC 81 (pc := 73) dL_circles_73 (by decide) (by omega) (by omega) (fun _ => ?_) (fun h => absurd h (by decide))
  refine wm_iconst hC (pc := 81) dL_circles_81 ?_
  refine wm_goto hC 86 (pc := 82) dL_circles_82 (by decide) ?_
  refine wm_istore_n hC 3 (pc := 86) dL_circles_86 rfl (by decide) rfl ?_
  refine wm_show (L' := [some (mvR 0), some (mvI 6), some (mvI 1), some (mvI 1), some (mvI 0)]) rfl rfl rfl rfl ?_
  refine wm_iload_n hC 3 (pc := 87) dL_circles_87 rfl rfl ?_
  refine wm_if_eq hC 120 (pc := 88) dL_circles_88 (by decide) (by omega) (fun h => absurd h (by decide)) (fun _ => ?_)
  refine wm_aload_n hC 0 (pc := 91) dL_circles_91 rfl rfl ?_
  refine wm_iconst hC (pc := 92) dL_circles_92 ?_
  refine wm_iload_n hC 1 (pc := 93) dL_circles_93 rfl rfl ?_
  refine wm_iload_n hC 2 (pc := 94) dL_circles_94 rfl rfl ?_
  refine wm_iload_n hC 2 (pc := 95) dL_circles_95 rfl rfl ?_
  refine wm_iconst hC (pc := 96) dL_circles_96 ?_
  refine wm_icmp_ne hC 105 (pc := 97) dL_circles_97 (by decide) (by omega) (by omega) (fun _ => ?_) (fun h => absurd h (by decide))
  refine wm_iload_n hC 1 (pc := 105) dL_circles_105 rfl rfl ?_
  refine wm_iconst hC (pc := 106) dL_circles_106 ?_
  refine wm_iadd hC (pc := 107) dL_circles_107 ?_
  refine wm_eqI (y := 7) (by decide) ?_
  refine wm_bipush hC (pc := 108) dL_circles_108 (by decide) ?_
  refine wm_irem hC (pc := 110) dL_circles_110 (by omega) (by omega) ?_
  refine wm_eqI (y := 0) (by decide) ?_
  refine wm_iV hC cv_L_32 kc_X8_arrow rfl rfl (t_arrowV hO (by decide)) rfl (by decide) rfl (Nat.le_of_ble_eq_true rfl) (pc := 111) dL_circles_111 (fun z111 w111 hw111 => ?_)
  obtain ⟨e111, hO⟩ := hw111
  replace e111 := e111.trans civ147
  subst e111
  have hO := hO.to civ148
  generalize push Hs (tb ciN73) = Hs at hO
  refine wm_iconst hC (pc := 114) dL_circles_114 ?_
  refine wm_icmp_ge hC 120 (pc := 115) dL_circles_115 (by decide) (by omega) (by omega) (fun _ => ?_) (fun h => absurd h (by decide))
  refine wm_iload_n hC 1 (pc := 120) dL_circles_120 rfl rfl ?_
  refine wm_iconst hC (pc := 121) dL_circles_121 ?_
  refine wm_icmp_ge hC 138 (pc := 122) dL_circles_122 (by decide) (by omega) (by omega) (fun _ => ?_) (fun h => absurd h (by decide))
  refine wm_iload_n hC 1 (pc := 138) dL_circles_138 rfl rfl ?_
  refine wm_iconst hC (pc := 139) dL_circles_139 ?_
  refine wm_icmp_ne hC 152 (pc := 140) dL_circles_140 (by decide) (by omega) (by omega) (fun _ => ?_) (fun h => absurd h (by decide))
  refine wm_iconst hC (pc := 152) dL_circles_152 ?_
  refine wm_istore hC  (pc := 153) dL_circles_153  (by decide) rfl ?_
  refine wm_show (L' := [some (mvR 0), some (mvI 6), some (mvI 1), some (mvI 1), some (mvI 0)]) rfl rfl rfl rfl ?_
  refine wm_iload hC  (pc := 155) dL_circles_155 rfl ?_
  refine wm_if_eq hC 189 (pc := 157) dL_circles_157 (by decide) (by omega) (fun _ => ?_) (fun h => absurd h (by decide))
  refine wm_iinc hC (v := 2) (pc := 189) dL_circles_189 rfl (by decide) (by decide) rfl ?_
  refine wm_show (L' := [some (mvR 0), some (mvI 6), some (mvI 2), some (mvI 1), some (mvI 0)]) rfl rfl rfl rfl ?_
  refine wm_goto hC 46 (pc := 192) dL_circles_192 (by decide) ?_
  refine wm_iload_n hC 2 (pc := 46) dL_circles_46 rfl rfl ?_
  refine wm_bipush hC (pc := 47) dL_circles_47 (by decide) ?_
  refine wm_icmp_ge hC 195 (pc := 49) dL_circles_49 (by decide) (by omega) (by omega) (fun h => absurd h (by decide)) (fun _ => ?_)
  refine wm_iload_n hC 1 (pc := 52) dL_circles_52 rfl rfl ?_
  refine wm_bipush hC (pc := 53) dL_circles_53 (by decide) ?_
  refine wm_icmp_ge hC 71 (pc := 55) dL_circles_55 (by decide) (by omega) (by omega) (fun _ => ?_) (fun h => absurd h (by decide))
  refine wm_iload_n hC 2 (pc := 71) dL_circles_71 rfl rfl ?_
  refine wm_iconst hC (pc := 72) dL_circles_72 ?_
  refine wm_icmp_lt hC 81 (pc := 73) dL_circles_73 (by decide) (by omega) (by omega) (fun h => absurd h (by decide)) (fun _ => ?_)
  refine wm_iload_n hC 2 (pc := 76) dL_circles_76 rfl rfl ?_
  refine wm_iconst hC (pc := 77) dL_circles_77 ?_
  refine wm_icmp_ne hC 85 (pc := 78) dL_circles_78 (by decide) (by omega) (by omega) (fun _ => ?_) (fun h => absurd h (by decide))
  refine wm_iconst hC (pc := 85) dL_circles_85 ?_
  refine wm_istore_n hC 3 (pc := 86) dL_circles_86 rfl (by decide) rfl ?_
  refine wm_show (L' := [some (mvR 0), some (mvI 6), some (mvI 2), some (mvI 0), some (mvI 0)]) rfl rfl rfl rfl ?_
  refine wm_iload_n hC 3 (pc := 87) dL_circles_87 rfl rfl ?_
  refine wm_if_eq hC 120 (pc := 88) dL_circles_88 (by decide) (by omega) (fun _ => ?_) (fun h => absurd h (by decide))
  refine wm_iload_n hC 1 (pc := 120) dL_circles_120 rfl rfl ?_
  refine wm_iconst hC (pc := 121) dL_circles_121 ?_
  refine wm_icmp_ge hC 138 (pc := 122) dL_circles_122 (by decide) (by omega) (by omega) (fun _ => ?_) (fun h => absurd h (by decide))
  refine wm_iload_n hC 1 (pc := 138) dL_circles_138 rfl rfl ?_
  refine wm_iconst hC (pc := 139) dL_circles_139 ?_
  refine wm_icmp_ne hC 152 (pc := 140) dL_circles_140 (by decide) (by omega) (by omega) (fun _ => ?_) (fun h => absurd h (by decide))
  refine wm_iconst hC (pc := 152) dL_circles_152 ?_
  refine wm_istore hC  (pc := 153) dL_circles_153  (by decide) rfl ?_
  refine wm_show (L' := [some (mvR 0), some (mvI 6), some (mvI 2), some (mvI 0), some (mvI 0)]) rfl rfl rfl rfl ?_
  refine wm_iload hC  (pc := 155) dL_circles_155 rfl ?_
  refine wm_if_eq hC 189 (pc := 157) dL_circles_157 (by decide) (by omega) (fun _ => ?_) (fun h => absurd h (by decide))
  refine wm_iinc hC (v := 3) (pc := 189) dL_circles_189 rfl (by decide) (by decide) rfl ?_
  refine wm_show (L' := [some (mvR 0), some (mvI 6), some (mvI 3), some (mvI 0), some (mvI 0)]) rfl rfl rfl rfl ?_
  refine wm_goto hC 46 (pc := 192) dL_circles_192 (by decide) ?_
  refine wm_iload_n hC 2 (pc := 46) dL_circles_46 rfl rfl ?_
  refine wm_bipush hC (pc := 47) dL_circles_47 (by decide) ?_
  refine wm_icmp_ge hC 195 (pc := 49) dL_circles_49 (by decide) (by omega) (by omega) (fun h => absurd h (by decide)) (fun _ => ?_)
  refine wm_iload_n hC 1 (pc := 52) dL_circles_52 rfl rfl ?_
  refine wm_bipush hC (pc := 53) dL_circles_53 (by decide) ?_
  refine wm_icmp_ge hC 71 (pc := 55) dL_circles_55 (by decide) (by omega) (by omega) (fun _ => ?_) (fun h => absurd h (by decide))
  refine wm_iload_n hC 2 (pc := 71) dL_circles_71 rfl rfl ?_
  refine wm_iconst hC (pc := 72) dL_circles_72 ?_
  refine wm_icmp_lt hC 81 (pc := 73) dL_circles_73 (by decide) (by omega) (by omega) (fun h => absurd h (by decide)) (fun _ => ?_)
  refine wm_iload_n hC 2 (pc := 76) dL_circles_76 rfl rfl ?_
  refine wm_iconst hC (pc := 77) dL_circles_77 ?_
  refine wm_icmp_ne hC 85 (pc := 78) dL_circles_78 (by decide) (by omega) (by omega) (fun _ => ?_) (fun h => absurd h (by decide))
  refine wm_iconst hC (pc := 85) dL_circles_85 ?_
  refine wm_istore_n hC 3 (pc := 86) dL_circles_86 rfl (by decide) rfl ?_
  refine wm_show (L' := [some (mvR 0), some (mvI 6), some (mvI 3), some (mvI 0), some (mvI 0)]) rfl rfl rfl rfl ?_
  refine wm_iload_n hC 3 (pc := 87) dL_circles_87 rfl rfl ?_
  refine wm_if_eq hC 120 (pc := 88) dL_circles_88 (by decide) (by omega) (fun _ => ?_) (fun h => absurd h (by decide))
  refine wm_iload_n hC 1 (pc := 120) dL_circles_120 rfl rfl ?_
  refine wm_iconst hC (pc := 121) dL_circles_121 ?_
  refine wm_icmp_ge hC 138 (pc := 122) dL_circles_122 (by decide) (by omega) (by omega) (fun _ => ?_) (fun h => absurd h (by decide))
  refine wm_iload_n hC 1 (pc := 138) dL_circles_138 rfl rfl ?_
  refine wm_iconst hC (pc := 139) dL_circles_139 ?_
  refine wm_icmp_ne hC 152 (pc := 140) dL_circles_140 (by decide) (by omega) (by omega) (fun _ => ?_) (fun h => absurd h (by decide))
  refine wm_iconst hC (pc := 152) dL_circles_152 ?_
  refine wm_istore hC  (pc := 153) dL_circles_153  (by decide) rfl ?_
  refine wm_show (L' := [some (mvR 0), some (mvI 6), some (mvI 3), some (mvI 0), some (mvI 0)]) rfl rfl rfl rfl ?_
  refine wm_iload hC  (pc := 155) dL_circles_155 rfl ?_
  refine wm_if_eq hC 189 (pc := 157) dL_circles_157 (by decide) (by omega) (fun _ => ?_) (fun h => absurd h (by decide))
  refine wm_iinc hC (v := 4) (pc := 189) dL_circles_189 rfl (by decide) (by decide) rfl ?_
  refine wm_show (L' := [some (mvR 0), some (mvI 6), some (mvI 4), some (mvI 0), some (mvI 0)]) rfl rfl rfl rfl ?_
  refine wm_goto hC 46 (pc := 192) dL_circles_192 (by decide) ?_
  refine wm_iload_n hC 2 (pc := 46) dL_circles_46 rfl rfl ?_
  refine wm_bipush hC (pc := 47) dL_circles_47 (by decide) ?_
  refine wm_icmp_ge hC 195 (pc := 49) dL_circles_49 (by decide) (by omega) (by omega) (fun h => absurd h (by decide)) (fun _ => ?_)
  refine wm_iload_n hC 1 (pc := 52) dL_circles_52 rfl rfl ?_
  refine wm_bipush hC (pc := 53) dL_circles_53 (by decide) ?_
  refine wm_icmp_ge hC 71 (pc := 55) dL_circles_55 (by decide) (by omega) (by omega) (fun _ => ?_) (fun h => absurd h (by decide))
  refine wm_iload_n hC 2 (pc := 71) dL_circles_71 rfl rfl ?_
  refine wm_iconst hC (pc := 72) dL_circles_72 ?_
  refine wm_icmp_lt hC 81 (pc := 73) dL_circles_73 (by decide) (by omega) (by omega) (fun h => absurd h (by decide)) (fun _ => ?_)
  refine wm_iload_n hC 2 (pc := 76) dL_circles_76 rfl rfl ?_
  refine wm_iconst hC (pc := 77) dL_circles_77 ?_
  refine wm_icmp_ne hC 85 (pc := 78) dL_circles_78 (by decide) (by omega) (by omega) (fun _ => ?_) (fun h => absurd h (by decide))
  refine wm_iconst hC (pc := 85) dL_circles_85 ?_
  refine wm_istore_n hC 3 (pc := 86) dL_circles_86 rfl (by decide) rfl ?_
  refine wm_show (L' := [some (mvR 0), some (mvI 6), some (mvI 4), some (mvI 0), some (mvI 0)]) rfl rfl rfl rfl ?_
  refine wm_iload_n hC 3 (pc := 87) dL_circles_87 rfl rfl ?_
  refine wm_if_eq hC 120 (pc := 88) dL_circles_88 (by decide) (by omega) (fun _ => ?_) (fun h => absurd h (by decide))
  refine wm_iload_n hC 1 (pc := 120) dL_circles_120 rfl rfl ?_
  refine wm_iconst hC (pc := 121) dL_circles_121 ?_
  refine wm_icmp_ge hC 138 (pc := 122) dL_circles_122 (by decide) (by omega) (by omega) (fun _ => ?_) (fun h => absurd h (by decide))
  refine wm_iload_n hC 1 (pc := 138) dL_circles_138 rfl rfl ?_
  refine wm_iconst hC (pc := 139) dL_circles_139 ?_
  refine wm_icmp_ne hC 152 (pc := 140) dL_circles_140 (by decide) (by omega) (by omega) (fun _ => ?_) (fun h => absurd h (by decide))
  refine wm_iconst hC (pc := 152) dL_circles_152 ?_
  refine wm_istore hC  (pc := 153) dL_circles_153  (by decide) rfl ?_
  refine wm_show (L' := [some (mvR 0), some (mvI 6), some (mvI 4), some (mvI 0), some (mvI 0)]) rfl rfl rfl rfl ?_
  refine wm_iload hC  (pc := 155) dL_circles_155 rfl ?_
  refine wm_if_eq hC 189 (pc := 157) dL_circles_157 (by decide) (by omega) (fun _ => ?_) (fun h => absurd h (by decide))
  refine wm_iinc hC (v := 5) (pc := 189) dL_circles_189 rfl (by decide) (by decide) rfl ?_
  refine wm_show (L' := [some (mvR 0), some (mvI 6), some (mvI 5), some (mvI 0), some (mvI 0)]) rfl rfl rfl rfl ?_
  refine wm_goto hC 46 (pc := 192) dL_circles_192 (by decide) ?_
  refine wm_iload_n hC 2 (pc := 46) dL_circles_46 rfl rfl ?_
  refine wm_bipush hC (pc := 47) dL_circles_47 (by decide) ?_
  refine wm_icmp_ge hC 195 (pc := 49) dL_circles_49 (by decide) (by omega) (by omega) (fun h => absurd h (by decide)) (fun _ => ?_)
  refine wm_iload_n hC 1 (pc := 52) dL_circles_52 rfl rfl ?_
  refine wm_bipush hC (pc := 53) dL_circles_53 (by decide) ?_
  refine wm_icmp_ge hC 71 (pc := 55) dL_circles_55 (by decide) (by omega) (by omega) (fun _ => ?_) (fun h => absurd h (by decide))
  refine wm_iload_n hC 2 (pc := 71) dL_circles_71 rfl rfl ?_
  refine wm_iconst hC (pc := 72) dL_circles_72 ?_
  refine wm_icmp_lt hC 81 (pc := 73) dL_circles_73 (by decide) (by omega) (by omega) (fun h => absurd h (by decide)) (fun _ => ?_)
  refine wm_iload_n hC 2 (pc := 76) dL_circles_76 rfl rfl ?_
  refine wm_iconst hC (pc := 77) dL_circles_77 ?_
  refine wm_icmp_ne hC 85 (pc := 78) dL_circles_78 (by decide) (by omega) (by omega) (fun h => absurd h (by decide)) (fun _ => ?_)
  refine wm_iconst hC (pc := 81) dL_circles_81 ?_
  refine wm_goto hC 86 (pc := 82) dL_circles_82 (by decide) ?_
  refine wm_istore_n hC 3 (pc := 86) dL_circles_86 rfl (by decide) rfl ?_
  refine wm_show (L' := [some (mvR 0), some (mvI 6), some (mvI 5), some (mvI 1), some (mvI 0)]) rfl rfl rfl rfl ?_
  refine wm_iload_n hC 3 (pc := 87) dL_circles_87 rfl rfl ?_
  refine wm_if_eq hC 120 (pc := 88) dL_circles_88 (by decide) (by omega) (fun h => absurd h (by decide)) (fun _ => ?_)
  refine wm_aload_n hC 0 (pc := 91) dL_circles_91 rfl rfl ?_
  refine wm_iconst hC (pc := 92) dL_circles_92 ?_
  refine wm_iload_n hC 1 (pc := 93) dL_circles_93 rfl rfl ?_
  refine wm_iload_n hC 2 (pc := 94) dL_circles_94 rfl rfl ?_
  refine wm_iload_n hC 2 (pc := 95) dL_circles_95 rfl rfl ?_
  refine wm_iconst hC (pc := 96) dL_circles_96 ?_
  refine wm_icmp_ne hC 105 (pc := 97) dL_circles_97 (by decide) (by omega) (by omega) (fun h => absurd h (by decide)) (fun _ => ?_)
  refine wm_bipush hC (pc := 100) dL_circles_100 (by decide) ?_
  refine wm_goto hC 111 (pc := 102) dL_circles_102 (by decide) ?_
  refine wm_iV hC cv_L_32 kc_X8_arrow rfl rfl (t_arrowV hO (by decide)) rfl (by decide) rfl (Nat.le_of_ble_eq_true rfl) (pc := 111) dL_circles_111 (fun z111 w111 hw111 => ?_)
  obtain ⟨e111, hO⟩ := hw111
  replace e111 := e111.trans civ149
  subst e111
  have hO := hO.to civ150
  generalize push Hs (tb ciN74) = Hs at hO
  refine wm_iconst hC (pc := 114) dL_circles_114 ?_
  refine wm_icmp_ge hC 120 (pc := 115) dL_circles_115 (by decide) (by omega) (by omega) (fun _ => ?_) (fun h => absurd h (by decide))
  refine wm_iload_n hC 1 (pc := 120) dL_circles_120 rfl rfl ?_
  refine wm_iconst hC (pc := 121) dL_circles_121 ?_
  refine wm_icmp_ge hC 138 (pc := 122) dL_circles_122 (by decide) (by omega) (by omega) (fun _ => ?_) (fun h => absurd h (by decide))
  refine wm_iload_n hC 1 (pc := 138) dL_circles_138 rfl rfl ?_
  refine wm_iconst hC (pc := 139) dL_circles_139 ?_
  refine wm_icmp_ne hC 152 (pc := 140) dL_circles_140 (by decide) (by omega) (by omega) (fun _ => ?_) (fun h => absurd h (by decide))
  refine wm_iconst hC (pc := 152) dL_circles_152 ?_
  refine wm_istore hC  (pc := 153) dL_circles_153  (by decide) rfl ?_
  refine wm_show (L' := [some (mvR 0), some (mvI 6), some (mvI 5), some (mvI 1), some (mvI 0)]) rfl rfl rfl rfl ?_
  refine wm_iload hC  (pc := 155) dL_circles_155 rfl ?_
  refine wm_if_eq hC 189 (pc := 157) dL_circles_157 (by decide) (by omega) (fun _ => ?_) (fun h => absurd h (by decide))
  refine wm_iinc hC (v := 6) (pc := 189) dL_circles_189 rfl (by decide) (by decide) rfl ?_
  refine wm_show (L' := [some (mvR 0), some (mvI 6), some (mvI 6), some (mvI 1), some (mvI 0)]) rfl rfl rfl rfl ?_
  refine wm_goto hC 46 (pc := 192) dL_circles_192 (by decide) ?_
  refine wm_iload_n hC 2 (pc := 46) dL_circles_46 rfl rfl ?_
  refine wm_bipush hC (pc := 47) dL_circles_47 (by decide) ?_
  refine wm_icmp_ge hC 195 (pc := 49) dL_circles_49 (by decide) (by omega) (by omega) (fun _ => ?_) (fun h => absurd h (by decide))
  refine wm_iinc hC (v := 7) (pc := 195) dL_circles_195 rfl (by decide) (by decide) rfl ?_
  refine wm_show (L' := [some (mvR 0), some (mvI 7), some (mvI 6), some (mvI 1), some (mvI 0)]) rfl rfl rfl rfl ?_
  refine wm_goto hC 10 (pc := 198) dL_circles_198 (by decide) ?_
  exact ciS7 hC hO none _ _ _
set_option maxRecDepth 100000 in
set_option maxHeartbeats 4000000 in
theorem ciS5 {l : Launch} {G : mG} {K : mK} {w : mW} {Hs : List Pn} (hC : mC G K 5 RL cL_circles (some .boolean)) (hO : Ob w (tb ciN60) Hs [] (fun _ => 0)) (x1 x2 x3 x4 : Option mV) : Wm l G K 9 5 (qI (fun z _ => z = 1)) 10 [some (mvR 0), some (mvI 5), x2, x3, x4] [] w := by
  refine wm_iload_n hC 1 (pc := 10) dL_circles_10 rfl rfl ?_
  refine wm_bipush hC (pc := 11) dL_circles_11 (by decide) ?_
  refine wm_icmp_ge hC 201 (pc := 13) dL_circles_13 (by decide) (by omega) (by omega) (fun h => absurd h (by decide)) (fun _ => ?_)
  refine wm_aload_n hC 0 (pc := 16) dL_circles_16 rfl rfl ?_
  refine wm_iconst hC (pc := 17) dL_circles_17 ?_
  refine wm_iload_n hC 1 (pc := 18) dL_circles_18 rfl rfl ?_
  refine wm_iconst hC (pc := 19) dL_circles_19 ?_
  refine wm_iV hC cv_L_26 kc_X8_kind rfl rfl (t_kindV hO (by decide)) rfl (by decide) rfl (Nat.le_of_ble_eq_true rfl) (pc := 20) dL_circles_20 (fun z20 w20 hw20 => ?_)
  obtain ⟨e20, hO⟩ := hw20
  replace e20 := e20.trans civ121
  subst e20
  have hO := hO.to civ122
  generalize push Hs (tb ciN60) = Hs at hO
  refine wm_if_ne hC 42 (pc := 23) dL_circles_23 (by decide) (by omega) (fun h => absurd h (by decide)) (fun _ => ?_)
  refine wm_iload_n hC 1 (pc := 26) dL_circles_26 rfl rfl ?_
  refine wm_bipush hC (pc := 27) dL_circles_27 (by decide) ?_
  refine wm_icmp_ge hC 44 (pc := 29) dL_circles_29 (by decide) (by omega) (by omega) (fun h => absurd h (by decide)) (fun _ => ?_)
  refine wm_aload_n hC 0 (pc := 32) dL_circles_32 rfl rfl ?_
  refine wm_iconst hC (pc := 33) dL_circles_33 ?_
  refine wm_iload_n hC 1 (pc := 34) dL_circles_34 rfl rfl ?_
  refine wm_iconst hC (pc := 35) dL_circles_35 ?_
  refine wm_iV hC cv_L_26 kc_X8_kind rfl rfl (t_kindV hO (by decide)) rfl (by decide) rfl (Nat.le_of_ble_eq_true rfl) (pc := 36) dL_circles_36 (fun z36 w36 hw36 => ?_)
  obtain ⟨e36, hO⟩ := hw36
  replace e36 := e36.trans civ123
  subst e36
  have hO := hO.to civ124
  generalize push Hs (tb ciN61) = Hs at hO
  refine wm_if_eq hC 44 (pc := 39) dL_circles_39 (by decide) (by omega) (fun _ => ?_) (fun h => absurd h (by decide))
  refine wm_iconst hC (pc := 44) dL_circles_44 ?_
  refine wm_istore_n hC 2 (pc := 45) dL_circles_45 rfl (by decide) rfl ?_
  refine wm_show (L' := [some (mvR 0), some (mvI 5), some (mvI 0), x3, x4]) rfl rfl rfl rfl ?_
  refine wm_iload_n hC 2 (pc := 46) dL_circles_46 rfl rfl ?_
  refine wm_bipush hC (pc := 47) dL_circles_47 (by decide) ?_
  refine wm_icmp_ge hC 195 (pc := 49) dL_circles_49 (by decide) (by omega) (by omega) (fun h => absurd h (by decide)) (fun _ => ?_)
  refine wm_iload_n hC 1 (pc := 52) dL_circles_52 rfl rfl ?_
  refine wm_bipush hC (pc := 53) dL_circles_53 (by decide) ?_
  refine wm_icmp_ge hC 71 (pc := 55) dL_circles_55 (by decide) (by omega) (by omega) (fun h => absurd h (by decide)) (fun _ => ?_)
  refine wm_iload_n hC 2 (pc := 58) dL_circles_58 rfl rfl ?_
  refine wm_iconst hC (pc := 59) dL_circles_59 ?_
  refine wm_icmp_ge hC 67 (pc := 60) dL_circles_60 (by decide) (by omega) (by omega) (fun h => absurd h (by decide)) (fun _ => ?_)
  refine wm_iconst hC (pc := 63) dL_circles_63 ?_
  refine wm_goto hC 86 (pc := 64) dL_circles_64 (by decide) ?_
  refine wm_istore_n hC 3 (pc := 86) dL_circles_86 rfl (by decide) rfl ?_
  refine wm_show (L' := [some (mvR 0), some (mvI 5), some (mvI 0), some (mvI 1), x4]) rfl rfl rfl rfl ?_
  refine wm_iload_n hC 3 (pc := 87) dL_circles_87 rfl rfl ?_
  refine wm_if_eq hC 120 (pc := 88) dL_circles_88 (by decide) (by omega) (fun h => absurd h (by decide)) (fun _ => ?_)
  refine wm_aload_n hC 0 (pc := 91) dL_circles_91 rfl rfl ?_
  refine wm_iconst hC (pc := 92) dL_circles_92 ?_
  refine wm_iload_n hC 1 (pc := 93) dL_circles_93 rfl rfl ?_
  refine wm_iload_n hC 2 (pc := 94) dL_circles_94 rfl rfl ?_
  refine wm_iload_n hC 2 (pc := 95) dL_circles_95 rfl rfl ?_
  refine wm_iconst hC (pc := 96) dL_circles_96 ?_
  refine wm_icmp_ne hC 105 (pc := 97) dL_circles_97 (by decide) (by omega) (by omega) (fun _ => ?_) (fun h => absurd h (by decide))
  refine wm_iload_n hC 1 (pc := 105) dL_circles_105 rfl rfl ?_
  refine wm_iconst hC (pc := 106) dL_circles_106 ?_
  refine wm_iadd hC (pc := 107) dL_circles_107 ?_
  refine wm_eqI (y := 6) (by decide) ?_
  refine wm_bipush hC (pc := 108) dL_circles_108 (by decide) ?_
  refine wm_irem hC (pc := 110) dL_circles_110 (by omega) (by omega) ?_
  refine wm_eqI (y := 6) (by decide) ?_
  refine wm_iV hC cv_L_32 kc_X8_arrow rfl rfl (t_arrowV hO (by decide)) rfl (by decide) rfl (Nat.le_of_ble_eq_true rfl) (pc := 111) dL_circles_111 (fun z111 w111 hw111 => ?_)
  obtain ⟨e111, hO⟩ := hw111
  replace e111 := e111.trans civ125
  subst e111
  have hO := hO.to civ126
  generalize push Hs (tb ciN62) = Hs at hO
  refine wm_iconst hC (pc := 114) dL_circles_114 ?_
  refine wm_icmp_ge hC 120 (pc := 115) dL_circles_115 (by decide) (by omega) (by omega) (fun _ => ?_) (fun h => absurd h (by decide))
  refine wm_iload_n hC 1 (pc := 120) dL_circles_120 rfl rfl ?_
  refine wm_iconst hC (pc := 121) dL_circles_121 ?_
  refine wm_icmp_ge hC 138 (pc := 122) dL_circles_122 (by decide) (by omega) (by omega) (fun _ => ?_) (fun h => absurd h (by decide))
  refine wm_iload_n hC 1 (pc := 138) dL_circles_138 rfl rfl ?_
  refine wm_iconst hC (pc := 139) dL_circles_139 ?_
  refine wm_icmp_ne hC 152 (pc := 140) dL_circles_140 (by decide) (by omega) (by omega) (fun h => absurd h (by decide)) (fun _ => ?_)
  refine wm_iload_n hC 2 (pc := 143) dL_circles_143 rfl rfl ?_
  refine wm_iconst hC (pc := 144) dL_circles_144 ?_
  refine wm_icmp_le hC 152 (pc := 145) dL_circles_145 (by decide) (by omega) (by omega) (fun _ => ?_) (fun h => absurd h (by decide))
  refine wm_iconst hC (pc := 152) dL_circles_152 ?_
  refine wm_istore hC  (pc := 153) dL_circles_153  (by decide) rfl ?_
  refine wm_show (L' := [some (mvR 0), some (mvI 5), some (mvI 0), some (mvI 1), some (mvI 0)]) rfl rfl rfl rfl ?_
  refine wm_iload hC  (pc := 155) dL_circles_155 rfl ?_
  refine wm_if_eq hC 189 (pc := 157) dL_circles_157 (by decide) (by omega) (fun _ => ?_) (fun h => absurd h (by decide))
  refine wm_iinc hC (v := 1) (pc := 189) dL_circles_189 rfl (by decide) (by decide) rfl ?_
  refine wm_show (L' := [some (mvR 0), some (mvI 5), some (mvI 1), some (mvI 1), some (mvI 0)]) rfl rfl rfl rfl ?_
  refine wm_goto hC 46 (pc := 192) dL_circles_192 (by decide) ?_
  refine wm_iload_n hC 2 (pc := 46) dL_circles_46 rfl rfl ?_
  refine wm_bipush hC (pc := 47) dL_circles_47 (by decide) ?_
  refine wm_icmp_ge hC 195 (pc := 49) dL_circles_49 (by decide) (by omega) (by omega) (fun h => absurd h (by decide)) (fun _ => ?_)
  refine wm_iload_n hC 1 (pc := 52) dL_circles_52 rfl rfl ?_
  refine wm_bipush hC (pc := 53) dL_circles_53 (by decide) ?_
  refine wm_icmp_ge hC 71 (pc := 55) dL_circles_55 (by decide) (by omega) (by omega) (fun h => absurd h (by decide)) (fun _ => ?_)
  refine wm_iload_n hC 2 (pc := 58) dL_circles_58 rfl rfl ?_
  refine wm_iconst hC (pc := 59) dL_circles_59 ?_
  refine wm_icmp_ge hC 67 (pc := 60) dL_circles_60 (by decide) (by omega) (by omega) (fun h => absurd h (by decide)) (fun _ => ?_)
  refine wm_iconst hC (pc := 63) dL_circles_63 ?_
  refine wm_goto hC 86 (pc := 64) dL_circles_64 (by decide) ?_
  refine wm_istore_n hC 3 (pc := 86) dL_circles_86 rfl (by decide) rfl ?_
  refine wm_show (L' := [some (mvR 0), some (mvI 5), some (mvI 1), some (mvI 1), some (mvI 0)]) rfl rfl rfl rfl ?_
  refine wm_iload_n hC 3 (pc := 87) dL_circles_87 rfl rfl ?_
  refine wm_if_eq hC 120 (pc := 88) dL_circles_88 (by decide) (by omega) (fun h => absurd h (by decide)) (fun _ => ?_)
  refine wm_aload_n hC 0 (pc := 91) dL_circles_91 rfl rfl ?_
  refine wm_iconst hC (pc := 92) dL_circles_92 ?_
  refine wm_iload_n hC 1 (pc := 93) dL_circles_93 rfl rfl ?_
  refine wm_iload_n hC 2 (pc := 94) dL_circles_94 rfl rfl ?_
  refine wm_iload_n hC 2 (pc := 95) dL_circles_95 rfl rfl ?_
  refine wm_iconst hC (pc := 96) dL_circles_96 ?_
  refine wm_icmp_ne hC 105 (pc := 97) dL_circles_97 (by decide) (by omega) (by omega) (fun _ => ?_) (fun h => absurd h (by decide))
  refine wm_iload_n hC 1 (pc := 105) dL_circles_105 rfl rfl ?_
  refine wm_iconst hC (pc := 106) dL_circles_106 ?_
  refine wm_iadd hC (pc := 107) dL_circles_107 ?_
  refine wm_eqI (y := 6) (by decide) ?_
  refine wm_bipush hC (pc := 108) dL_circles_108 (by decide) ?_
  refine wm_irem hC (pc := 110) dL_circles_110 (by omega) (by omega) ?_
  refine wm_eqI (y := 6) (by decide) ?_
  refine wm_iV hC cv_L_32 kc_X8_arrow rfl rfl (t_arrowV hO (by decide)) rfl (by decide) rfl (Nat.le_of_ble_eq_true rfl) (pc := 111) dL_circles_111 (fun z111 w111 hw111 => ?_)
  obtain ⟨e111, hO⟩ := hw111
  replace e111 := e111.trans civ127
  subst e111
  have hO := hO.to civ128
  generalize push Hs (tb ciN63) = Hs at hO
  refine wm_iconst hC (pc := 114) dL_circles_114 ?_
  refine wm_icmp_ge hC 120 (pc := 115) dL_circles_115 (by decide) (by omega) (by omega) (fun _ => ?_) (fun h => absurd h (by decide))
  refine wm_iload_n hC 1 (pc := 120) dL_circles_120 rfl rfl ?_
  refine wm_iconst hC (pc := 121) dL_circles_121 ?_
  refine wm_icmp_ge hC 138 (pc := 122) dL_circles_122 (by decide) (by omega) (by omega) (fun _ => ?_) (fun h => absurd h (by decide))
  refine wm_iload_n hC 1 (pc := 138) dL_circles_138 rfl rfl ?_
  refine wm_iconst hC (pc := 139) dL_circles_139 ?_
  refine wm_icmp_ne hC 152 (pc := 140) dL_circles_140 (by decide) (by omega) (by omega) (fun h => absurd h (by decide)) (fun _ => ?_)
  refine wm_iload_n hC 2 (pc := 143) dL_circles_143 rfl rfl ?_
  refine wm_iconst hC (pc := 144) dL_circles_144 ?_
  refine wm_icmp_le hC 152 (pc := 145) dL_circles_145 (by decide) (by omega) (by omega) (fun _ => ?_) (fun h => absurd h (by decide))
  refine wm_iconst hC (pc := 152) dL_circles_152 ?_
  refine wm_istore hC  (pc := 153) dL_circles_153  (by decide) rfl ?_
  refine wm_show (L' := [some (mvR 0), some (mvI 5), some (mvI 1), some (mvI 1), some (mvI 0)]) rfl rfl rfl rfl ?_
  refine wm_iload hC  (pc := 155) dL_circles_155 rfl ?_
  refine wm_if_eq hC 189 (pc := 157) dL_circles_157 (by decide) (by omega) (fun _ => ?_) (fun h => absurd h (by decide))
  refine wm_iinc hC (v := 2) (pc := 189) dL_circles_189 rfl (by decide) (by decide) rfl ?_
  refine wm_show (L' := [some (mvR 0), some (mvI 5), some (mvI 2), some (mvI 1), some (mvI 0)]) rfl rfl rfl rfl ?_
  refine wm_goto hC 46 (pc := 192) dL_circles_192 (by decide) ?_
  refine wm_iload_n hC 2 (pc := 46) dL_circles_46 rfl rfl ?_
  refine wm_bipush hC (pc := 47) dL_circles_47 (by decide) ?_
  refine wm_icmp_ge hC 195 (pc := 49) dL_circles_49 (by decide) (by omega) (by omega) (fun h => absurd h (by decide)) (fun _ => ?_)
  refine wm_iload_n hC 1 (pc := 52) dL_circles_52 rfl rfl ?_
  refine wm_bipush hC (pc := 53) dL_circles_53 (by decide) ?_
  refine wm_icmp_ge hC 71 (pc := 55) dL_circles_55 (by decide) (by omega) (by omega) (fun h => absurd h (by decide)) (fun _ => ?_)
  refine wm_iload_n hC 2 (pc := 58) dL_circles_58 rfl rfl ?_
  refine wm_iconst hC (pc := 59) dL_circles_59 ?_
  refine wm_icmp_ge hC 67 (pc := 60) dL_circles_60 (by decide) (by omega) (by omega) (fun h => absurd h (by decide)) (fun _ => ?_)
  refine wm_iconst hC (pc := 63) dL_circles_63 ?_
  refine wm_goto hC 86 (pc := 64) dL_circles_64 (by decide) ?_
  refine wm_istore_n hC 3 (pc := 86) dL_circles_86 rfl (by decide) rfl ?_
  refine wm_show (L' := [some (mvR 0), some (mvI 5), some (mvI 2), some (mvI 1), some (mvI 0)]) rfl rfl rfl rfl ?_
  refine wm_iload_n hC 3 (pc := 87) dL_circles_87 rfl rfl ?_
  refine wm_if_eq hC 120 (pc := 88) dL_circles_88 (by decide) (by omega) (fun h => absurd h (by decide)) (fun _ => ?_)
  refine wm_aload_n hC 0 (pc := 91) dL_circles_91 rfl rfl ?_
  refine wm_iconst hC (pc := 92) dL_circles_92 ?_
  refine wm_iload_n hC 1 (pc := 93) dL_circles_93 rfl rfl ?_
  refine wm_iload_n hC 2 (pc := 94) dL_circles_94 rfl rfl ?_
  refine wm_iload_n hC 2 (pc := 95) dL_circles_95 rfl rfl ?_
  refine wm_iconst hC (pc := 96) dL_circles_96 ?_
  refine wm_icmp_ne hC 105 (pc := 97) dL_circles_97 (by decide) (by omega) (by omega) (fun _ => ?_) (fun h => absurd h (by decide))
  refine wm_iload_n hC 1 (pc := 105) dL_circles_105 rfl rfl ?_
  refine wm_iconst hC (pc := 106) dL_circles_106 ?_
  refine wm_iadd hC (pc := 107) dL_circles_107 ?_
  refine wm_eqI (y := 6) (by decide) ?_
  refine wm_bipush hC (pc := 108) dL_circles_108 (by decide) ?_
  refine wm_irem hC (pc := 110) dL_circles_110 (by omega) (by omega) ?_
  refine wm_eqI (y := 6) (by decide) ?_
  refine wm_iV hC cv_L_32 kc_X8_arrow rfl rfl (t_arrowV hO (by decide)) rfl (by decide) rfl (Nat.le_of_ble_eq_true rfl) (pc := 111) dL_circles_111 (fun z111 w111 hw111 => ?_)
  obtain ⟨e111, hO⟩ := hw111
  replace e111 := e111.trans civ129
  subst e111
  have hO := hO.to civ130
  generalize push Hs (tb ciN64) = Hs at hO
  refine wm_iconst hC (pc := 114) dL_circles_114 ?_
  refine wm_icmp_ge hC 120 (pc := 115) dL_circles_115 (by decide) (by omega) (by omega) (fun _ => ?_) (fun h => absurd h (by decide))
  refine wm_iload_n hC 1 (pc := 120) dL_circles_120 rfl rfl ?_
  refine wm_iconst hC (pc := 121) dL_circles_121 ?_
  refine wm_icmp_ge hC 138 (pc := 122) dL_circles_122 (by decide) (by omega) (by omega) (fun _ => ?_) (fun h => absurd h (by decide))
  refine wm_iload_n hC 1 (pc := 138) dL_circles_138 rfl rfl ?_
  refine wm_iconst hC (pc := 139) dL_circles_139 ?_
  refine wm_icmp_ne hC 152 (pc := 140) dL_circles_140 (by decide) (by omega) (by omega) (fun h => absurd h (by decide)) (fun _ => ?_)
  refine wm_iload_n hC 2 (pc := 143) dL_circles_143 rfl rfl ?_
  refine wm_iconst hC (pc := 144) dL_circles_144 ?_
  refine wm_icmp_le hC 152 (pc := 145) dL_circles_145 (by decide) (by omega) (by omega) (fun h => absurd h (by decide)) (fun _ => ?_)
  refine wm_iconst hC (pc := 148) dL_circles_148 ?_
  refine wm_goto hC 153 (pc := 149) dL_circles_149 (by decide) ?_
  refine wm_istore hC  (pc := 153) dL_circles_153  (by decide) rfl ?_
  refine wm_show (L' := [some (mvR 0), some (mvI 5), some (mvI 2), some (mvI 1), some (mvI 1)]) rfl rfl rfl rfl ?_
  refine wm_iload hC  (pc := 155) dL_circles_155 rfl ?_
  refine wm_if_eq hC 189 (pc := 157) dL_circles_157 (by decide) (by omega) (fun h => absurd h (by decide)) (fun _ => ?_)
  refine wm_aload_n hC 0 (pc := 160) dL_circles_160 rfl rfl ?_
  refine wm_iconst hC (pc := 161) dL_circles_161 ?_
  refine wm_iload_n hC 1 (pc := 162) dL_circles_162 rfl rfl ?_
  refine wm_iload_n hC 2 (pc := 163) dL_circles_163 rfl rfl ?_
  refine wm_iload_n hC 2 (pc := 164) dL_circles_164 rfl rfl ?_
  refine wm_iconst hC (pc := 165) dL_circles_165 ?_
  refine wm_icmp_ne hC 174 (pc := 166) dL_circles_166 (by decide) (by omega) (by omega) (fun _ => ?_) (fun h => absurd h (by decide))
  refine wm_iload_n hC 1 (pc := 174) dL_circles_174 rfl rfl ?_
  refine wm_iconst hC (pc := 175) dL_circles_175 ?_
  refine wm_iadd hC (pc := 176) dL_circles_176 ?_
  refine wm_eqI (y := 6) (by decide) ?_
  refine wm_bipush hC (pc := 177) dL_circles_177 (by decide) ?_
  refine wm_irem hC (pc := 179) dL_circles_179 (by omega) (by omega) ?_
  refine wm_eqI (y := 0) (by decide) ?_
  refine wm_iV hC cv_L_32 kc_X8_arrow rfl rfl (t_arrowV hO (by decide)) rfl (by decide) rfl (Nat.le_of_ble_eq_true rfl) (pc := 180) dL_circles_180 (fun z180 w180 hw180 => ?_)
  obtain ⟨e180, hO⟩ := hw180
  replace e180 := e180.trans civ131
  subst e180
  have hO := hO.to civ132
  generalize push Hs (tb ciN65) = Hs at hO
  refine wm_iconst hC (pc := 183) dL_circles_183 ?_
  refine wm_icmp_ge hC 189 (pc := 184) dL_circles_184 (by decide) (by omega) (by omega) (fun _ => ?_) (fun h => absurd h (by decide))
  refine wm_iinc hC (v := 3) (pc := 189) dL_circles_189 rfl (by decide) (by decide) rfl ?_
  refine wm_show (L' := [some (mvR 0), some (mvI 5), some (mvI 3), some (mvI 1), some (mvI 1)]) rfl rfl rfl rfl ?_
  refine wm_goto hC 46 (pc := 192) dL_circles_192 (by decide) ?_
  refine wm_iload_n hC 2 (pc := 46) dL_circles_46 rfl rfl ?_
  refine wm_bipush hC (pc := 47) dL_circles_47 (by decide) ?_
  refine wm_icmp_ge hC 195 (pc := 49) dL_circles_49 (by decide) (by omega) (by omega) (fun h => absurd h (by decide)) (fun _ => ?_)
  refine wm_iload_n hC 1 (pc := 52) dL_circles_52 rfl rfl ?_
  refine wm_bipush hC (pc := 53) dL_circles_53 (by decide) ?_
  refine wm_icmp_ge hC 71 (pc := 55) dL_circles_55 (by decide) (by omega) (by omega) (fun h => absurd h (by decide)) (fun _ => ?_)
  refine wm_iload_n hC 2 (pc := 58) dL_circles_58 rfl rfl ?_
  refine wm_iconst hC (pc := 59) dL_circles_59 ?_
  refine wm_icmp_ge hC 67 (pc := 60) dL_circles_60 (by decide) (by omega) (by omega) (fun h => absurd h (by decide)) (fun _ => ?_)
  refine wm_iconst hC (pc := 63) dL_circles_63 ?_
  refine wm_goto hC 86 (pc := 64) dL_circles_64 (by decide) ?_
  refine wm_istore_n hC 3 (pc := 86) dL_circles_86 rfl (by decide) rfl ?_
  refine wm_show (L' := [some (mvR 0), some (mvI 5), some (mvI 3), some (mvI 1), some (mvI 1)]) rfl rfl rfl rfl ?_
  refine wm_iload_n hC 3 (pc := 87) dL_circles_87 rfl rfl ?_
  refine wm_if_eq hC 120 (pc := 88) dL_circles_88 (by decide) (by omega) (fun h => absurd h (by decide)) (fun _ => ?_)
  refine wm_aload_n hC 0 (pc := 91) dL_circles_91 rfl rfl ?_
  refine wm_iconst hC (pc := 92) dL_circles_92 ?_
  refine wm_iload_n hC 1 (pc := 93) dL_circles_93 rfl rfl ?_
  refine wm_iload_n hC 2 (pc := 94) dL_circles_94 rfl rfl ?_
  refine wm_iload_n hC 2 (pc := 95) dL_circles_95 rfl rfl ?_
  refine wm_iconst hC (pc := 96) dL_circles_96 ?_
  refine wm_icmp_ne hC 105 (pc := 97) dL_circles_97 (by decide) (by omega) (by omega) (fun _ => ?_) (fun h => absurd h (by decide))
  refine wm_iload_n hC 1 (pc := 105) dL_circles_105 rfl rfl ?_
  refine wm_iconst hC (pc := 106) dL_circles_106 ?_
  refine wm_iadd hC (pc := 107) dL_circles_107 ?_
  refine wm_eqI (y := 6) (by decide) ?_
  refine wm_bipush hC (pc := 108) dL_circles_108 (by decide) ?_
  refine wm_irem hC (pc := 110) dL_circles_110 (by omega) (by omega) ?_
  refine wm_eqI (y := 6) (by decide) ?_
  refine wm_iV hC cv_L_32 kc_X8_arrow rfl rfl (t_arrowV hO (by decide)) rfl (by decide) rfl (Nat.le_of_ble_eq_true rfl) (pc := 111) dL_circles_111 (fun z111 w111 hw111 => ?_)
  obtain ⟨e111, hO⟩ := hw111
  replace e111 := e111.trans civ133
  subst e111
  have hO := hO.to civ134
  generalize push Hs (tb ciN66) = Hs at hO
  refine wm_iconst hC (pc := 114) dL_circles_114 ?_
  refine wm_icmp_ge hC 120 (pc := 115) dL_circles_115 (by decide) (by omega) (by omega) (fun _ => ?_) (fun h => absurd h (by decide))
  refine wm_iload_n hC 1 (pc := 120) dL_circles_120 rfl rfl ?_
  refine wm_iconst hC (pc := 121) dL_circles_121 ?_
  refine wm_icmp_ge hC 138 (pc := 122) dL_circles_122 (by decide) (by omega) (by omega) (fun _ => ?_) (fun h => absurd h (by decide))
  refine wm_iload_n hC 1 (pc := 138) dL_circles_138 rfl rfl ?_
  refine wm_iconst hC (pc := 139) dL_circles_139 ?_
  refine wm_icmp_ne hC 152 (pc := 140) dL_circles_140 (by decide) (by omega) (by omega) (fun h => absurd h (by decide)) (fun _ => ?_)
  refine wm_iload_n hC 2 (pc := 143) dL_circles_143 rfl rfl ?_
  refine wm_iconst hC (pc := 144) dL_circles_144 ?_
  refine wm_icmp_le hC 152 (pc := 145) dL_circles_145 (by decide) (by omega) (by omega) (fun h => absurd h (by decide)) (fun _ => ?_)
  refine wm_iconst hC (pc := 148) dL_circles_148 ?_
  refine wm_goto hC 153 (pc := 149) dL_circles_149 (by decide) ?_
  refine wm_istore hC  (pc := 153) dL_circles_153  (by decide) rfl ?_
  refine wm_show (L' := [some (mvR 0), some (mvI 5), some (mvI 3), some (mvI 1), some (mvI 1)]) rfl rfl rfl rfl ?_
  refine wm_iload hC  (pc := 155) dL_circles_155 rfl ?_
  refine wm_if_eq hC 189 (pc := 157) dL_circles_157 (by decide) (by omega) (fun h => absurd h (by decide)) (fun _ => ?_)
  refine wm_aload_n hC 0 (pc := 160) dL_circles_160 rfl rfl ?_
  refine wm_iconst hC (pc := 161) dL_circles_161 ?_
  refine wm_iload_n hC 1 (pc := 162) dL_circles_162 rfl rfl ?_
  refine wm_iload_n hC 2 (pc := 163) dL_circles_163 rfl rfl ?_
  refine wm_iload_n hC 2 (pc := 164) dL_circles_164 rfl rfl ?_
  refine wm_iconst hC (pc := 165) dL_circles_165 ?_
  refine wm_icmp_ne hC 174 (pc := 166) dL_circles_166 (by decide) (by omega) (by omega) (fun _ => ?_) (fun h => absurd h (by decide))
  refine wm_iload_n hC 1 (pc := 174) dL_circles_174 rfl rfl ?_
  refine wm_iconst hC (pc := 175) dL_circles_175 ?_
  refine wm_iadd hC (pc := 176) dL_circles_176 ?_
  refine wm_eqI (y := 6) (by decide) ?_
  refine wm_bipush hC (pc := 177) dL_circles_177 (by decide) ?_
  refine wm_irem hC (pc := 179) dL_circles_179 (by omega) (by omega) ?_
  refine wm_eqI (y := 0) (by decide) ?_
  refine wm_iV hC cv_L_32 kc_X8_arrow rfl rfl (t_arrowV hO (by decide)) rfl (by decide) rfl (Nat.le_of_ble_eq_true rfl) (pc := 180) dL_circles_180 (fun z180 w180 hw180 => ?_)
  obtain ⟨e180, hO⟩ := hw180
  replace e180 := e180.trans civ135
  subst e180
  have hO := hO.to civ136
  generalize push Hs (tb ciN67) = Hs at hO
  refine wm_iconst hC (pc := 183) dL_circles_183 ?_
  refine wm_icmp_ge hC 189 (pc := 184) dL_circles_184 (by decide) (by omega) (by omega) (fun _ => ?_) (fun h => absurd h (by decide))
  refine wm_iinc hC (v := 4) (pc := 189) dL_circles_189 rfl (by decide) (by decide) rfl ?_
  refine wm_show (L' := [some (mvR 0), some (mvI 5), some (mvI 4), some (mvI 1), some (mvI 1)]) rfl rfl rfl rfl ?_
  refine wm_goto hC 46 (pc := 192) dL_circles_192 (by decide) ?_
  refine wm_iload_n hC 2 (pc := 46) dL_circles_46 rfl rfl ?_
  refine wm_bipush hC (pc := 47) dL_circles_47 (by decide) ?_
  refine wm_icmp_ge hC 195 (pc := 49) dL_circles_49 (by decide) (by omega) (by omega) (fun h => absurd h (by decide)) (fun _ => ?_)
  refine wm_iload_n hC 1 (pc := 52) dL_circles_52 rfl rfl ?_
  refine wm_bipush hC (pc := 53) dL_circles_53 (by decide) ?_
  refine wm_icmp_ge hC 71 (pc := 55) dL_circles_55 (by decide) (by omega) (by omega) (fun h => absurd h (by decide)) (fun _ => ?_)
  refine wm_iload_n hC 2 (pc := 58) dL_circles_58 rfl rfl ?_
  refine wm_iconst hC (pc := 59) dL_circles_59 ?_
  refine wm_icmp_ge hC 67 (pc := 60) dL_circles_60 (by decide) (by omega) (by omega) (fun h => absurd h (by decide)) (fun _ => ?_)
  refine wm_iconst hC (pc := 63) dL_circles_63 ?_
  refine wm_goto hC 86 (pc := 64) dL_circles_64 (by decide) ?_
  refine wm_istore_n hC 3 (pc := 86) dL_circles_86 rfl (by decide) rfl ?_
  refine wm_show (L' := [some (mvR 0), some (mvI 5), some (mvI 4), some (mvI 1), some (mvI 1)]) rfl rfl rfl rfl ?_
  refine wm_iload_n hC 3 (pc := 87) dL_circles_87 rfl rfl ?_
  refine wm_if_eq hC 120 (pc := 88) dL_circles_88 (by decide) (by omega) (fun h => absurd h (by decide)) (fun _ => ?_)
  refine wm_aload_n hC 0 (pc := 91) dL_circles_91 rfl rfl ?_
  refine wm_iconst hC (pc := 92) dL_circles_92 ?_
  refine wm_iload_n hC 1 (pc := 93) dL_circles_93 rfl rfl ?_
  refine wm_iload_n hC 2 (pc := 94) dL_circles_94 rfl rfl ?_
  refine wm_iload_n hC 2 (pc := 95) dL_circles_95 rfl rfl ?_
  refine wm_iconst hC (pc := 96) dL_circles_96 ?_
  refine wm_icmp_ne hC 105 (pc := 97) dL_circles_97 (by decide) (by omega) (by omega) (fun _ => ?_) (fun h => absurd h (by decide))
  refine wm_iload_n hC 1 (pc := 105) dL_circles_105 rfl rfl ?_
  refine wm_iconst hC (pc := 106) dL_circles_106 ?_
  refine wm_iadd hC (pc := 107) dL_circles_107 ?_
  refine wm_eqI (y := 6) (by decide) ?_
  refine wm_bipush hC (pc := 108) dL_circles_108 (by decide) ?_
  refine wm_irem hC (pc := 110) dL_circles_110 (by omega) (by omega) ?_
  refine wm_eqI (y := 6) (by decide) ?_
  refine wm_iV hC cv_L_32 kc_X8_arrow rfl rfl (t_arrowV hO (by decide)) rfl (by decide) rfl (Nat.le_of_ble_eq_true rfl) (pc := 111) dL_circles_111 (fun z111 w111 hw111 => ?_)
  obtain ⟨e111, hO⟩ := hw111
  replace e111 := e111.trans civ137
  subst e111
  have hO := hO.to civ138
  generalize push Hs (tb ciN68) = Hs at hO
  refine wm_iconst hC (pc := 114) dL_circles_114 ?_
  refine wm_icmp_ge hC 120 (pc := 115) dL_circles_115 (by decide) (by omega) (by omega) (fun _ => ?_) (fun h => absurd h (by decide))
  refine wm_iload_n hC 1 (pc := 120) dL_circles_120 rfl rfl ?_
  refine wm_iconst hC (pc := 121) dL_circles_121 ?_
  refine wm_icmp_ge hC 138 (pc := 122) dL_circles_122 (by decide) (by omega) (by omega) (fun _ => ?_) (fun h => absurd h (by decide))
  refine wm_iload_n hC 1 (pc := 138) dL_circles_138 rfl rfl ?_
  refine wm_iconst hC (pc := 139) dL_circles_139 ?_
  refine wm_icmp_ne hC 152 (pc := 140) dL_circles_140 (by decide) (by omega) (by omega) (fun h => absurd h (by decide)) (fun _ => ?_)
  refine wm_iload_n hC 2 (pc := 143) dL_circles_143 rfl rfl ?_
  refine wm_iconst hC (pc := 144) dL_circles_144 ?_
  refine wm_icmp_le hC 152 (pc := 145) dL_circles_145 (by decide) (by omega) (by omega) (fun h => absurd h (by decide)) (fun _ => ?_)
  refine wm_iconst hC (pc := 148) dL_circles_148 ?_
  refine wm_goto hC 153 (pc := 149) dL_circles_149 (by decide) ?_
  refine wm_istore hC  (pc := 153) dL_circles_153  (by decide) rfl ?_
  refine wm_show (L' := [some (mvR 0), some (mvI 5), some (mvI 4), some (mvI 1), some (mvI 1)]) rfl rfl rfl rfl ?_
  refine wm_iload hC  (pc := 155) dL_circles_155 rfl ?_
  refine wm_if_eq hC 189 (pc := 157) dL_circles_157 (by decide) (by omega) (fun h => absurd h (by decide)) (fun _ => ?_)
  refine wm_aload_n hC 0 (pc := 160) dL_circles_160 rfl rfl ?_
  refine wm_iconst hC (pc := 161) dL_circles_161 ?_
  refine wm_iload_n hC 1 (pc := 162) dL_circles_162 rfl rfl ?_
  refine wm_iload_n hC 2 (pc := 163) dL_circles_163 rfl rfl ?_
  refine wm_iload_n hC 2 (pc := 164) dL_circles_164 rfl rfl ?_
  refine wm_iconst hC (pc := 165) dL_circles_165 ?_
  refine wm_icmp_ne hC 174 (pc := 166) dL_circles_166 (by decide) (by omega) (by omega) (fun _ => ?_) (fun h => absurd h (by decide))
  refine wm_iload_n hC 1 (pc := 174) dL_circles_174 rfl rfl ?_
  refine wm_iconst hC (pc := 175) dL_circles_175 ?_
  refine wm_iadd hC (pc := 176) dL_circles_176 ?_
  refine wm_eqI (y := 6) (by decide) ?_
  refine wm_bipush hC (pc := 177) dL_circles_177 (by decide) ?_
  refine wm_irem hC (pc := 179) dL_circles_179 (by omega) (by omega) ?_
  refine wm_eqI (y := 0) (by decide) ?_
  refine wm_iV hC cv_L_32 kc_X8_arrow rfl rfl (t_arrowV hO (by decide)) rfl (by decide) rfl (Nat.le_of_ble_eq_true rfl) (pc := 180) dL_circles_180 (fun z180 w180 hw180 => ?_)
  obtain ⟨e180, hO⟩ := hw180
  replace e180 := e180.trans civ139
  subst e180
  have hO := hO.to civ140
  generalize push Hs (tb ciN69) = Hs at hO
  refine wm_iconst hC (pc := 183) dL_circles_183 ?_
  refine wm_icmp_ge hC 189 (pc := 184) dL_circles_184 (by decide) (by omega) (by omega) (fun _ => ?_) (fun h => absurd h (by decide))
  refine wm_iinc hC (v := 5) (pc := 189) dL_circles_189 rfl (by decide) (by decide) rfl ?_
  refine wm_show (L' := [some (mvR 0), some (mvI 5), some (mvI 5), some (mvI 1), some (mvI 1)]) rfl rfl rfl rfl ?_
  refine wm_goto hC 46 (pc := 192) dL_circles_192 (by decide) ?_
  refine wm_iload_n hC 2 (pc := 46) dL_circles_46 rfl rfl ?_
  refine wm_bipush hC (pc := 47) dL_circles_47 (by decide) ?_
  refine wm_icmp_ge hC 195 (pc := 49) dL_circles_49 (by decide) (by omega) (by omega) (fun h => absurd h (by decide)) (fun _ => ?_)
  refine wm_iload_n hC 1 (pc := 52) dL_circles_52 rfl rfl ?_
  refine wm_bipush hC (pc := 53) dL_circles_53 (by decide) ?_
  refine wm_icmp_ge hC 71 (pc := 55) dL_circles_55 (by decide) (by omega) (by omega) (fun h => absurd h (by decide)) (fun _ => ?_)
  refine wm_iload_n hC 2 (pc := 58) dL_circles_58 rfl rfl ?_
  refine wm_iconst hC (pc := 59) dL_circles_59 ?_
  refine wm_icmp_ge hC 67 (pc := 60) dL_circles_60 (by decide) (by omega) (by omega) (fun _ => ?_) (fun h => absurd h (by decide))
  refine wm_iconst hC (pc := 67) dL_circles_67 ?_
  refine wm_goto hC 86 (pc := 68) dL_circles_68 (by decide) ?_
  refine wm_istore_n hC 3 (pc := 86) dL_circles_86 rfl (by decide) rfl ?_
  refine wm_show (L' := [some (mvR 0), some (mvI 5), some (mvI 5), some (mvI 0), some (mvI 1)]) rfl rfl rfl rfl ?_
  refine wm_iload_n hC 3 (pc := 87) dL_circles_87 rfl rfl ?_
  refine wm_if_eq hC 120 (pc := 88) dL_circles_88 (by decide) (by omega) (fun _ => ?_) (fun h => absurd h (by decide))
  refine wm_iload_n hC 1 (pc := 120) dL_circles_120 rfl rfl ?_
  refine wm_iconst hC (pc := 121) dL_circles_121 ?_
  refine wm_icmp_ge hC 138 (pc := 122) dL_circles_122 (by decide) (by omega) (by omega) (fun _ => ?_) (fun h => absurd h (by decide))
  refine wm_iload_n hC 1 (pc := 138) dL_circles_138 rfl rfl ?_
  refine wm_iconst hC (pc := 139) dL_circles_139 ?_
  refine wm_icmp_ne hC 152 (pc := 140) dL_circles_140 (by decide) (by omega) (by omega) (fun h => absurd h (by decide)) (fun _ => ?_)
  refine wm_iload_n hC 2 (pc := 143) dL_circles_143 rfl rfl ?_
  refine wm_iconst hC (pc := 144) dL_circles_144 ?_
  refine wm_icmp_le hC 152 (pc := 145) dL_circles_145 (by decide) (by omega) (by omega) (fun h => absurd h (by decide)) (fun _ => ?_)
  refine wm_iconst hC (pc := 148) dL_circles_148 ?_
  refine wm_goto hC 153 (pc := 149) dL_circles_149 (by decide) ?_
  refine wm_istore hC  (pc := 153) dL_circles_153  (by decide) rfl ?_
  refine wm_show (L' := [some (mvR 0), some (mvI 5), some (mvI 5), some (mvI 0), some (mvI 1)]) rfl rfl rfl rfl ?_
  refine wm_iload hC  (pc := 155) dL_circles_155 rfl ?_
  refine wm_if_eq hC 189 (pc := 157) dL_circles_157 (by decide) (by omega) (fun h => absurd h (by decide)) (fun _ => ?_)
  refine wm_aload_n hC 0 (pc := 160) dL_circles_160 rfl rfl ?_
  refine wm_iconst hC (pc := 161) dL_circles_161 ?_
  refine wm_iload_n hC 1 (pc := 162) dL_circles_162 rfl rfl ?_
  refine wm_iload_n hC 2 (pc := 163) dL_circles_163 rfl rfl ?_
  refine wm_iload_n hC 2 (pc := 164) dL_circles_164 rfl rfl ?_
  refine wm_iconst hC (pc := 165) dL_circles_165 ?_
  refine wm_icmp_ne hC 174 (pc := 166) dL_circles_166 (by decide) (by omega) (by omega) (fun h => absurd h (by decide)) (fun _ => ?_)
  refine wm_bipush hC (pc := 169) dL_circles_169 (by decide) ?_
  refine wm_goto hC 180 (pc := 171) dL_circles_171 (by decide) ?_
  refine wm_iV hC cv_L_32 kc_X8_arrow rfl rfl (t_arrowV hO (by decide)) rfl (by decide) rfl (Nat.le_of_ble_eq_true rfl) (pc := 180) dL_circles_180 (fun z180 w180 hw180 => ?_)
  obtain ⟨e180, hO⟩ := hw180
  replace e180 := e180.trans civ141
  subst e180
  have hO := hO.to civ142
  generalize push Hs (tb ciN70) = Hs at hO
  refine wm_iconst hC (pc := 183) dL_circles_183 ?_
  refine wm_icmp_ge hC 189 (pc := 184) dL_circles_184 (by decide) (by omega) (by omega) (fun _ => ?_) (fun h => absurd h (by decide))
  refine wm_iinc hC (v := 6) (pc := 189) dL_circles_189 rfl (by decide) (by decide) rfl ?_
  refine wm_show (L' := [some (mvR 0), some (mvI 5), some (mvI 6), some (mvI 0), some (mvI 1)]) rfl rfl rfl rfl ?_
  refine wm_goto hC 46 (pc := 192) dL_circles_192 (by decide) ?_
  refine wm_iload_n hC 2 (pc := 46) dL_circles_46 rfl rfl ?_
  refine wm_bipush hC (pc := 47) dL_circles_47 (by decide) ?_
  refine wm_icmp_ge hC 195 (pc := 49) dL_circles_49 (by decide) (by omega) (by omega) (fun _ => ?_) (fun h => absurd h (by decide))
  refine wm_iinc hC (v := 6) (pc := 195) dL_circles_195 rfl (by decide) (by decide) rfl ?_
  refine wm_show (L' := [some (mvR 0), some (mvI 6), some (mvI 6), some (mvI 0), some (mvI 1)]) rfl rfl rfl rfl ?_
  refine wm_goto hC 10 (pc := 198) dL_circles_198 (by decide) ?_
  exact ciS6 hC hO none _ _ _
set_option maxRecDepth 100000 in
set_option maxHeartbeats 4000000 in
theorem ciS4 {l : Launch} {G : mG} {K : mK} {w : mW} {Hs : List Pn} (hC : mC G K 5 RL cL_circles (some .boolean)) (hO : Ob w (tb ciN48) Hs [] (fun _ => 0)) (x1 x2 x3 x4 : Option mV) : Wm l G K 9 5 (qI (fun z _ => z = 1)) 10 [some (mvR 0), some (mvI 4), x2, x3, x4] [] w := by
  refine wm_iload_n hC 1 (pc := 10) dL_circles_10 rfl rfl ?_
  refine wm_bipush hC (pc := 11) dL_circles_11 (by decide) ?_
  refine wm_icmp_ge hC 201 (pc := 13) dL_circles_13 (by decide) (by omega) (by omega) (fun h => absurd h (by decide)) (fun _ => ?_)
  refine wm_aload_n hC 0 (pc := 16) dL_circles_16 rfl rfl ?_
  refine wm_iconst hC (pc := 17) dL_circles_17 ?_
  refine wm_iload_n hC 1 (pc := 18) dL_circles_18 rfl rfl ?_
  refine wm_iconst hC (pc := 19) dL_circles_19 ?_
  refine wm_iV hC cv_L_26 kc_X8_kind rfl rfl (t_kindV hO (by decide)) rfl (by decide) rfl (Nat.le_of_ble_eq_true rfl) (pc := 20) dL_circles_20 (fun z20 w20 hw20 => ?_)
  obtain ⟨e20, hO⟩ := hw20
  replace e20 := e20.trans civ97
  subst e20
  have hO := hO.to civ98
  generalize push Hs (tb ciN48) = Hs at hO
  refine wm_if_ne hC 42 (pc := 23) dL_circles_23 (by decide) (by omega) (fun h => absurd h (by decide)) (fun _ => ?_)
  refine wm_iload_n hC 1 (pc := 26) dL_circles_26 rfl rfl ?_
  refine wm_bipush hC (pc := 27) dL_circles_27 (by decide) ?_
  refine wm_icmp_ge hC 44 (pc := 29) dL_circles_29 (by decide) (by omega) (by omega) (fun h => absurd h (by decide)) (fun _ => ?_)
  refine wm_aload_n hC 0 (pc := 32) dL_circles_32 rfl rfl ?_
  refine wm_iconst hC (pc := 33) dL_circles_33 ?_
  refine wm_iload_n hC 1 (pc := 34) dL_circles_34 rfl rfl ?_
  refine wm_iconst hC (pc := 35) dL_circles_35 ?_
  refine wm_iV hC cv_L_26 kc_X8_kind rfl rfl (t_kindV hO (by decide)) rfl (by decide) rfl (Nat.le_of_ble_eq_true rfl) (pc := 36) dL_circles_36 (fun z36 w36 hw36 => ?_)
  obtain ⟨e36, hO⟩ := hw36
  replace e36 := e36.trans civ99
  subst e36
  have hO := hO.to civ100
  generalize push Hs (tb ciN49) = Hs at hO
  refine wm_if_eq hC 44 (pc := 39) dL_circles_39 (by decide) (by omega) (fun _ => ?_) (fun h => absurd h (by decide))
  refine wm_iconst hC (pc := 44) dL_circles_44 ?_
  refine wm_istore_n hC 2 (pc := 45) dL_circles_45 rfl (by decide) rfl ?_
  refine wm_show (L' := [some (mvR 0), some (mvI 4), some (mvI 0), x3, x4]) rfl rfl rfl rfl ?_
  refine wm_iload_n hC 2 (pc := 46) dL_circles_46 rfl rfl ?_
  refine wm_bipush hC (pc := 47) dL_circles_47 (by decide) ?_
  refine wm_icmp_ge hC 195 (pc := 49) dL_circles_49 (by decide) (by omega) (by omega) (fun h => absurd h (by decide)) (fun _ => ?_)
  refine wm_iload_n hC 1 (pc := 52) dL_circles_52 rfl rfl ?_
  refine wm_bipush hC (pc := 53) dL_circles_53 (by decide) ?_
  refine wm_icmp_ge hC 71 (pc := 55) dL_circles_55 (by decide) (by omega) (by omega) (fun h => absurd h (by decide)) (fun _ => ?_)
  refine wm_iload_n hC 2 (pc := 58) dL_circles_58 rfl rfl ?_
  refine wm_iconst hC (pc := 59) dL_circles_59 ?_
  refine wm_icmp_ge hC 67 (pc := 60) dL_circles_60 (by decide) (by omega) (by omega) (fun h => absurd h (by decide)) (fun _ => ?_)
  refine wm_iconst hC (pc := 63) dL_circles_63 ?_
  refine wm_goto hC 86 (pc := 64) dL_circles_64 (by decide) ?_
  refine wm_istore_n hC 3 (pc := 86) dL_circles_86 rfl (by decide) rfl ?_
  refine wm_show (L' := [some (mvR 0), some (mvI 4), some (mvI 0), some (mvI 1), x4]) rfl rfl rfl rfl ?_
  refine wm_iload_n hC 3 (pc := 87) dL_circles_87 rfl rfl ?_
  refine wm_if_eq hC 120 (pc := 88) dL_circles_88 (by decide) (by omega) (fun h => absurd h (by decide)) (fun _ => ?_)
  refine wm_aload_n hC 0 (pc := 91) dL_circles_91 rfl rfl ?_
  refine wm_iconst hC (pc := 92) dL_circles_92 ?_
  refine wm_iload_n hC 1 (pc := 93) dL_circles_93 rfl rfl ?_
  refine wm_iload_n hC 2 (pc := 94) dL_circles_94 rfl rfl ?_
  refine wm_iload_n hC 2 (pc := 95) dL_circles_95 rfl rfl ?_
  refine wm_iconst hC (pc := 96) dL_circles_96 ?_
  refine wm_icmp_ne hC 105 (pc := 97) dL_circles_97 (by decide) (by omega) (by omega) (fun _ => ?_) (fun h => absurd h (by decide))
  refine wm_iload_n hC 1 (pc := 105) dL_circles_105 rfl rfl ?_
  refine wm_iconst hC (pc := 106) dL_circles_106 ?_
  refine wm_iadd hC (pc := 107) dL_circles_107 ?_
  refine wm_eqI (y := 5) (by decide) ?_
  refine wm_bipush hC (pc := 108) dL_circles_108 (by decide) ?_
  refine wm_irem hC (pc := 110) dL_circles_110 (by omega) (by omega) ?_
  refine wm_eqI (y := 5) (by decide) ?_
  refine wm_iV hC cv_L_32 kc_X8_arrow rfl rfl (t_arrowV hO (by decide)) rfl (by decide) rfl (Nat.le_of_ble_eq_true rfl) (pc := 111) dL_circles_111 (fun z111 w111 hw111 => ?_)
  obtain ⟨e111, hO⟩ := hw111
  replace e111 := e111.trans civ101
  subst e111
  have hO := hO.to civ102
  generalize push Hs (tb ciN50) = Hs at hO
  refine wm_iconst hC (pc := 114) dL_circles_114 ?_
  refine wm_icmp_ge hC 120 (pc := 115) dL_circles_115 (by decide) (by omega) (by omega) (fun _ => ?_) (fun h => absurd h (by decide))
  refine wm_iload_n hC 1 (pc := 120) dL_circles_120 rfl rfl ?_
  refine wm_iconst hC (pc := 121) dL_circles_121 ?_
  refine wm_icmp_ge hC 138 (pc := 122) dL_circles_122 (by decide) (by omega) (by omega) (fun h => absurd h (by decide)) (fun _ => ?_)
  refine wm_iload_n hC 2 (pc := 125) dL_circles_125 rfl rfl ?_
  refine wm_iconst hC (pc := 126) dL_circles_126 ?_
  refine wm_icmp_ge hC 134 (pc := 127) dL_circles_127 (by decide) (by omega) (by omega) (fun h => absurd h (by decide)) (fun _ => ?_)
  refine wm_iconst hC (pc := 130) dL_circles_130 ?_
  refine wm_goto hC 153 (pc := 131) dL_circles_131 (by decide) ?_
  refine wm_istore hC  (pc := 153) dL_circles_153  (by decide) rfl ?_
  refine wm_show (L' := [some (mvR 0), some (mvI 4), some (mvI 0), some (mvI 1), some (mvI 1)]) rfl rfl rfl rfl ?_
  refine wm_iload hC  (pc := 155) dL_circles_155 rfl ?_
  refine wm_if_eq hC 189 (pc := 157) dL_circles_157 (by decide) (by omega) (fun h => absurd h (by decide)) (fun _ => ?_)
  refine wm_aload_n hC 0 (pc := 160) dL_circles_160 rfl rfl ?_
  refine wm_iconst hC (pc := 161) dL_circles_161 ?_
  refine wm_iload_n hC 1 (pc := 162) dL_circles_162 rfl rfl ?_
  refine wm_iload_n hC 2 (pc := 163) dL_circles_163 rfl rfl ?_
  refine wm_iload_n hC 2 (pc := 164) dL_circles_164 rfl rfl ?_
  refine wm_iconst hC (pc := 165) dL_circles_165 ?_
  refine wm_icmp_ne hC 174 (pc := 166) dL_circles_166 (by decide) (by omega) (by omega) (fun _ => ?_) (fun h => absurd h (by decide))
  refine wm_iload_n hC 1 (pc := 174) dL_circles_174 rfl rfl ?_
  refine wm_iconst hC (pc := 175) dL_circles_175 ?_
  refine wm_iadd hC (pc := 176) dL_circles_176 ?_
  refine wm_eqI (y := 5) (by decide) ?_
  refine wm_bipush hC (pc := 177) dL_circles_177 (by decide) ?_
  refine wm_irem hC (pc := 179) dL_circles_179 (by omega) (by omega) ?_
  refine wm_eqI (y := 5) (by decide) ?_
  refine wm_iV hC cv_L_32 kc_X8_arrow rfl rfl (t_arrowV hO (by decide)) rfl (by decide) rfl (Nat.le_of_ble_eq_true rfl) (pc := 180) dL_circles_180 (fun z180 w180 hw180 => ?_)
  obtain ⟨e180, hO⟩ := hw180
  replace e180 := e180.trans civ103
  subst e180
  have hO := hO.to civ104
  generalize push Hs (tb ciN51) = Hs at hO
  refine wm_iconst hC (pc := 183) dL_circles_183 ?_
  refine wm_icmp_ge hC 189 (pc := 184) dL_circles_184 (by decide) (by omega) (by omega) (fun _ => ?_) (fun h => absurd h (by decide))
  refine wm_iinc hC (v := 1) (pc := 189) dL_circles_189 rfl (by decide) (by decide) rfl ?_
  refine wm_show (L' := [some (mvR 0), some (mvI 4), some (mvI 1), some (mvI 1), some (mvI 1)]) rfl rfl rfl rfl ?_
  refine wm_goto hC 46 (pc := 192) dL_circles_192 (by decide) ?_
  refine wm_iload_n hC 2 (pc := 46) dL_circles_46 rfl rfl ?_
  refine wm_bipush hC (pc := 47) dL_circles_47 (by decide) ?_
  refine wm_icmp_ge hC 195 (pc := 49) dL_circles_49 (by decide) (by omega) (by omega) (fun h => absurd h (by decide)) (fun _ => ?_)
  refine wm_iload_n hC 1 (pc := 52) dL_circles_52 rfl rfl ?_
  refine wm_bipush hC (pc := 53) dL_circles_53 (by decide) ?_
  refine wm_icmp_ge hC 71 (pc := 55) dL_circles_55 (by decide) (by omega) (by omega) (fun h => absurd h (by decide)) (fun _ => ?_)
  refine wm_iload_n hC 2 (pc := 58) dL_circles_58 rfl rfl ?_
  refine wm_iconst hC (pc := 59) dL_circles_59 ?_
  refine wm_icmp_ge hC 67 (pc := 60) dL_circles_60 (by decide) (by omega) (by omega) (fun h => absurd h (by decide)) (fun _ => ?_)
  refine wm_iconst hC (pc := 63) dL_circles_63 ?_
  refine wm_goto hC 86 (pc := 64) dL_circles_64 (by decide) ?_
  refine wm_istore_n hC 3 (pc := 86) dL_circles_86 rfl (by decide) rfl ?_
  refine wm_show (L' := [some (mvR 0), some (mvI 4), some (mvI 1), some (mvI 1), some (mvI 1)]) rfl rfl rfl rfl ?_
  refine wm_iload_n hC 3 (pc := 87) dL_circles_87 rfl rfl ?_
  refine wm_if_eq hC 120 (pc := 88) dL_circles_88 (by decide) (by omega) (fun h => absurd h (by decide)) (fun _ => ?_)
  refine wm_aload_n hC 0 (pc := 91) dL_circles_91 rfl rfl ?_
  refine wm_iconst hC (pc := 92) dL_circles_92 ?_
  refine wm_iload_n hC 1 (pc := 93) dL_circles_93 rfl rfl ?_
  refine wm_iload_n hC 2 (pc := 94) dL_circles_94 rfl rfl ?_
  refine wm_iload_n hC 2 (pc := 95) dL_circles_95 rfl rfl ?_
  refine wm_iconst hC (pc := 96) dL_circles_96 ?_
  refine wm_icmp_ne hC 105 (pc := 97) dL_circles_97 (by decide) (by omega) (by omega) (fun _ => ?_) (fun h => absurd h (by decide))
  refine wm_iload_n hC 1 (pc := 105) dL_circles_105 rfl rfl ?_
  refine wm_iconst hC (pc := 106) dL_circles_106 ?_
  refine wm_iadd hC (pc := 107) dL_circles_107 ?_
  refine wm_eqI (y := 5) (by decide) ?_
  refine wm_bipush hC (pc := 108) dL_circles_108 (by decide) ?_
  refine wm_irem hC (pc := 110) dL_circles_110 (by omega) (by omega) ?_
  refine wm_eqI (y := 5) (by decide) ?_
  refine wm_iV hC cv_L_32 kc_X8_arrow rfl rfl (t_arrowV hO (by decide)) rfl (by decide) rfl (Nat.le_of_ble_eq_true rfl) (pc := 111) dL_circles_111 (fun z111 w111 hw111 => ?_)
  obtain ⟨e111, hO⟩ := hw111
  replace e111 := e111.trans civ105
  subst e111
  have hO := hO.to civ106
  generalize push Hs (tb ciN52) = Hs at hO
  refine wm_iconst hC (pc := 114) dL_circles_114 ?_
  refine wm_icmp_ge hC 120 (pc := 115) dL_circles_115 (by decide) (by omega) (by omega) (fun _ => ?_) (fun h => absurd h (by decide))
  refine wm_iload_n hC 1 (pc := 120) dL_circles_120 rfl rfl ?_
  refine wm_iconst hC (pc := 121) dL_circles_121 ?_
  refine wm_icmp_ge hC 138 (pc := 122) dL_circles_122 (by decide) (by omega) (by omega) (fun h => absurd h (by decide)) (fun _ => ?_)
  refine wm_iload_n hC 2 (pc := 125) dL_circles_125 rfl rfl ?_
  refine wm_iconst hC (pc := 126) dL_circles_126 ?_
  refine wm_icmp_ge hC 134 (pc := 127) dL_circles_127 (by decide) (by omega) (by omega) (fun h => absurd h (by decide)) (fun _ => ?_)
  refine wm_iconst hC (pc := 130) dL_circles_130 ?_
  refine wm_goto hC 153 (pc := 131) dL_circles_131 (by decide) ?_
  refine wm_istore hC  (pc := 153) dL_circles_153  (by decide) rfl ?_
  refine wm_show (L' := [some (mvR 0), some (mvI 4), some (mvI 1), some (mvI 1), some (mvI 1)]) rfl rfl rfl rfl ?_
  refine wm_iload hC  (pc := 155) dL_circles_155 rfl ?_
  refine wm_if_eq hC 189 (pc := 157) dL_circles_157 (by decide) (by omega) (fun h => absurd h (by decide)) (fun _ => ?_)
  refine wm_aload_n hC 0 (pc := 160) dL_circles_160 rfl rfl ?_
  refine wm_iconst hC (pc := 161) dL_circles_161 ?_
  refine wm_iload_n hC 1 (pc := 162) dL_circles_162 rfl rfl ?_
  refine wm_iload_n hC 2 (pc := 163) dL_circles_163 rfl rfl ?_
  refine wm_iload_n hC 2 (pc := 164) dL_circles_164 rfl rfl ?_
  refine wm_iconst hC (pc := 165) dL_circles_165 ?_
  refine wm_icmp_ne hC 174 (pc := 166) dL_circles_166 (by decide) (by omega) (by omega) (fun _ => ?_) (fun h => absurd h (by decide))
  refine wm_iload_n hC 1 (pc := 174) dL_circles_174 rfl rfl ?_
  refine wm_iconst hC (pc := 175) dL_circles_175 ?_
  refine wm_iadd hC (pc := 176) dL_circles_176 ?_
  refine wm_eqI (y := 5) (by decide) ?_
  refine wm_bipush hC (pc := 177) dL_circles_177 (by decide) ?_
  refine wm_irem hC (pc := 179) dL_circles_179 (by omega) (by omega) ?_
  refine wm_eqI (y := 5) (by decide) ?_
  refine wm_iV hC cv_L_32 kc_X8_arrow rfl rfl (t_arrowV hO (by decide)) rfl (by decide) rfl (Nat.le_of_ble_eq_true rfl) (pc := 180) dL_circles_180 (fun z180 w180 hw180 => ?_)
  obtain ⟨e180, hO⟩ := hw180
  replace e180 := e180.trans civ107
  subst e180
  have hO := hO.to civ108
  generalize push Hs (tb ciN53) = Hs at hO
  refine wm_iconst hC (pc := 183) dL_circles_183 ?_
  refine wm_icmp_ge hC 189 (pc := 184) dL_circles_184 (by decide) (by omega) (by omega) (fun _ => ?_) (fun h => absurd h (by decide))
  refine wm_iinc hC (v := 2) (pc := 189) dL_circles_189 rfl (by decide) (by decide) rfl ?_
  refine wm_show (L' := [some (mvR 0), some (mvI 4), some (mvI 2), some (mvI 1), some (mvI 1)]) rfl rfl rfl rfl ?_
  refine wm_goto hC 46 (pc := 192) dL_circles_192 (by decide) ?_
  refine wm_iload_n hC 2 (pc := 46) dL_circles_46 rfl rfl ?_
  refine wm_bipush hC (pc := 47) dL_circles_47 (by decide) ?_
  refine wm_icmp_ge hC 195 (pc := 49) dL_circles_49 (by decide) (by omega) (by omega) (fun h => absurd h (by decide)) (fun _ => ?_)
  refine wm_iload_n hC 1 (pc := 52) dL_circles_52 rfl rfl ?_
  refine wm_bipush hC (pc := 53) dL_circles_53 (by decide) ?_
  refine wm_icmp_ge hC 71 (pc := 55) dL_circles_55 (by decide) (by omega) (by omega) (fun h => absurd h (by decide)) (fun _ => ?_)
  refine wm_iload_n hC 2 (pc := 58) dL_circles_58 rfl rfl ?_
  refine wm_iconst hC (pc := 59) dL_circles_59 ?_
  refine wm_icmp_ge hC 67 (pc := 60) dL_circles_60 (by decide) (by omega) (by omega) (fun h => absurd h (by decide)) (fun _ => ?_)
  refine wm_iconst hC (pc := 63) dL_circles_63 ?_
  refine wm_goto hC 86 (pc := 64) dL_circles_64 (by decide) ?_
  refine wm_istore_n hC 3 (pc := 86) dL_circles_86 rfl (by decide) rfl ?_
  refine wm_show (L' := [some (mvR 0), some (mvI 4), some (mvI 2), some (mvI 1), some (mvI 1)]) rfl rfl rfl rfl ?_
  refine wm_iload_n hC 3 (pc := 87) dL_circles_87 rfl rfl ?_
  refine wm_if_eq hC 120 (pc := 88) dL_circles_88 (by decide) (by omega) (fun h => absurd h (by decide)) (fun _ => ?_)
  refine wm_aload_n hC 0 (pc := 91) dL_circles_91 rfl rfl ?_
  refine wm_iconst hC (pc := 92) dL_circles_92 ?_
  refine wm_iload_n hC 1 (pc := 93) dL_circles_93 rfl rfl ?_
  refine wm_iload_n hC 2 (pc := 94) dL_circles_94 rfl rfl ?_
  refine wm_iload_n hC 2 (pc := 95) dL_circles_95 rfl rfl ?_
  refine wm_iconst hC (pc := 96) dL_circles_96 ?_
  refine wm_icmp_ne hC 105 (pc := 97) dL_circles_97 (by decide) (by omega) (by omega) (fun _ => ?_) (fun h => absurd h (by decide))
  refine wm_iload_n hC 1 (pc := 105) dL_circles_105 rfl rfl ?_
  refine wm_iconst hC (pc := 106) dL_circles_106 ?_
  refine wm_iadd hC (pc := 107) dL_circles_107 ?_
  refine wm_eqI (y := 5) (by decide) ?_
  refine wm_bipush hC (pc := 108) dL_circles_108 (by decide) ?_
  refine wm_irem hC (pc := 110) dL_circles_110 (by omega) (by omega) ?_
  refine wm_eqI (y := 5) (by decide) ?_
  refine wm_iV hC cv_L_32 kc_X8_arrow rfl rfl (t_arrowV hO (by decide)) rfl (by decide) rfl (Nat.le_of_ble_eq_true rfl) (pc := 111) dL_circles_111 (fun z111 w111 hw111 => ?_)
  obtain ⟨e111, hO⟩ := hw111
  replace e111 := e111.trans civ109
  subst e111
  have hO := hO.to civ110
  generalize push Hs (tb ciN54) = Hs at hO
  refine wm_iconst hC (pc := 114) dL_circles_114 ?_
  refine wm_icmp_ge hC 120 (pc := 115) dL_circles_115 (by decide) (by omega) (by omega) (fun _ => ?_) (fun h => absurd h (by decide))
  refine wm_iload_n hC 1 (pc := 120) dL_circles_120 rfl rfl ?_
  refine wm_iconst hC (pc := 121) dL_circles_121 ?_
  refine wm_icmp_ge hC 138 (pc := 122) dL_circles_122 (by decide) (by omega) (by omega) (fun h => absurd h (by decide)) (fun _ => ?_)
  refine wm_iload_n hC 2 (pc := 125) dL_circles_125 rfl rfl ?_
  refine wm_iconst hC (pc := 126) dL_circles_126 ?_
  refine wm_icmp_ge hC 134 (pc := 127) dL_circles_127 (by decide) (by omega) (by omega) (fun h => absurd h (by decide)) (fun _ => ?_)
  refine wm_iconst hC (pc := 130) dL_circles_130 ?_
  refine wm_goto hC 153 (pc := 131) dL_circles_131 (by decide) ?_
  refine wm_istore hC  (pc := 153) dL_circles_153  (by decide) rfl ?_
  refine wm_show (L' := [some (mvR 0), some (mvI 4), some (mvI 2), some (mvI 1), some (mvI 1)]) rfl rfl rfl rfl ?_
  refine wm_iload hC  (pc := 155) dL_circles_155 rfl ?_
  refine wm_if_eq hC 189 (pc := 157) dL_circles_157 (by decide) (by omega) (fun h => absurd h (by decide)) (fun _ => ?_)
  refine wm_aload_n hC 0 (pc := 160) dL_circles_160 rfl rfl ?_
  refine wm_iconst hC (pc := 161) dL_circles_161 ?_
  refine wm_iload_n hC 1 (pc := 162) dL_circles_162 rfl rfl ?_
  refine wm_iload_n hC 2 (pc := 163) dL_circles_163 rfl rfl ?_
  refine wm_iload_n hC 2 (pc := 164) dL_circles_164 rfl rfl ?_
  refine wm_iconst hC (pc := 165) dL_circles_165 ?_
  refine wm_icmp_ne hC 174 (pc := 166) dL_circles_166 (by decide) (by omega) (by omega) (fun _ => ?_) (fun h => absurd h (by decide))
  refine wm_iload_n hC 1 (pc := 174) dL_circles_174 rfl rfl ?_
  refine wm_iconst hC (pc := 175) dL_circles_175 ?_
  refine wm_iadd hC (pc := 176) dL_circles_176 ?_
  refine wm_eqI (y := 5) (by decide) ?_
  refine wm_bipush hC (pc := 177) dL_circles_177 (by decide) ?_
  refine wm_irem hC (pc := 179) dL_circles_179 (by omega) (by omega) ?_
  refine wm_eqI (y := 5) (by decide) ?_
  refine wm_iV hC cv_L_32 kc_X8_arrow rfl rfl (t_arrowV hO (by decide)) rfl (by decide) rfl (Nat.le_of_ble_eq_true rfl) (pc := 180) dL_circles_180 (fun z180 w180 hw180 => ?_)
  obtain ⟨e180, hO⟩ := hw180
  replace e180 := e180.trans civ111
  subst e180
  have hO := hO.to civ112
  generalize push Hs (tb ciN55) = Hs at hO
  refine wm_iconst hC (pc := 183) dL_circles_183 ?_
  refine wm_icmp_ge hC 189 (pc := 184) dL_circles_184 (by decide) (by omega) (by omega) (fun _ => ?_) (fun h => absurd h (by decide))
  refine wm_iinc hC (v := 3) (pc := 189) dL_circles_189 rfl (by decide) (by decide) rfl ?_
  refine wm_show (L' := [some (mvR 0), some (mvI 4), some (mvI 3), some (mvI 1), some (mvI 1)]) rfl rfl rfl rfl ?_
  refine wm_goto hC 46 (pc := 192) dL_circles_192 (by decide) ?_
  refine wm_iload_n hC 2 (pc := 46) dL_circles_46 rfl rfl ?_
  refine wm_bipush hC (pc := 47) dL_circles_47 (by decide) ?_
  refine wm_icmp_ge hC 195 (pc := 49) dL_circles_49 (by decide) (by omega) (by omega) (fun h => absurd h (by decide)) (fun _ => ?_)
  refine wm_iload_n hC 1 (pc := 52) dL_circles_52 rfl rfl ?_
  refine wm_bipush hC (pc := 53) dL_circles_53 (by decide) ?_
  refine wm_icmp_ge hC 71 (pc := 55) dL_circles_55 (by decide) (by omega) (by omega) (fun h => absurd h (by decide)) (fun _ => ?_)
  refine wm_iload_n hC 2 (pc := 58) dL_circles_58 rfl rfl ?_
  refine wm_iconst hC (pc := 59) dL_circles_59 ?_
  refine wm_icmp_ge hC 67 (pc := 60) dL_circles_60 (by decide) (by omega) (by omega) (fun h => absurd h (by decide)) (fun _ => ?_)
  refine wm_iconst hC (pc := 63) dL_circles_63 ?_
  refine wm_goto hC 86 (pc := 64) dL_circles_64 (by decide) ?_
  refine wm_istore_n hC 3 (pc := 86) dL_circles_86 rfl (by decide) rfl ?_
  refine wm_show (L' := [some (mvR 0), some (mvI 4), some (mvI 3), some (mvI 1), some (mvI 1)]) rfl rfl rfl rfl ?_
  refine wm_iload_n hC 3 (pc := 87) dL_circles_87 rfl rfl ?_
  refine wm_if_eq hC 120 (pc := 88) dL_circles_88 (by decide) (by omega) (fun h => absurd h (by decide)) (fun _ => ?_)
  refine wm_aload_n hC 0 (pc := 91) dL_circles_91 rfl rfl ?_
  refine wm_iconst hC (pc := 92) dL_circles_92 ?_
  refine wm_iload_n hC 1 (pc := 93) dL_circles_93 rfl rfl ?_
  refine wm_iload_n hC 2 (pc := 94) dL_circles_94 rfl rfl ?_
  refine wm_iload_n hC 2 (pc := 95) dL_circles_95 rfl rfl ?_
  refine wm_iconst hC (pc := 96) dL_circles_96 ?_
  refine wm_icmp_ne hC 105 (pc := 97) dL_circles_97 (by decide) (by omega) (by omega) (fun _ => ?_) (fun h => absurd h (by decide))
  refine wm_iload_n hC 1 (pc := 105) dL_circles_105 rfl rfl ?_
  refine wm_iconst hC (pc := 106) dL_circles_106 ?_
  refine wm_iadd hC (pc := 107) dL_circles_107 ?_
  refine wm_eqI (y := 5) (by decide) ?_
  refine wm_bipush hC (pc := 108) dL_circles_108 (by decide) ?_
  refine wm_irem hC (pc := 110) dL_circles_110 (by omega) (by omega) ?_
  refine wm_eqI (y := 5) (by decide) ?_
  refine wm_iV hC cv_L_32 kc_X8_arrow rfl rfl (t_arrowV hO (by decide)) rfl (by decide) rfl (Nat.le_of_ble_eq_true rfl) (pc := 111) dL_circles_111 (fun z111 w111 hw111 => ?_)
  obtain ⟨e111, hO⟩ := hw111
  replace e111 := e111.trans civ113
  subst e111
  have hO := hO.to civ114
  generalize push Hs (tb ciN56) = Hs at hO
  refine wm_iconst hC (pc := 114) dL_circles_114 ?_
  refine wm_icmp_ge hC 120 (pc := 115) dL_circles_115 (by decide) (by omega) (by omega) (fun _ => ?_) (fun h => absurd h (by decide))
  refine wm_iload_n hC 1 (pc := 120) dL_circles_120 rfl rfl ?_
  refine wm_iconst hC (pc := 121) dL_circles_121 ?_
  refine wm_icmp_ge hC 138 (pc := 122) dL_circles_122 (by decide) (by omega) (by omega) (fun h => absurd h (by decide)) (fun _ => ?_)
  refine wm_iload_n hC 2 (pc := 125) dL_circles_125 rfl rfl ?_
  refine wm_iconst hC (pc := 126) dL_circles_126 ?_
  refine wm_icmp_ge hC 134 (pc := 127) dL_circles_127 (by decide) (by omega) (by omega) (fun h => absurd h (by decide)) (fun _ => ?_)
  refine wm_iconst hC (pc := 130) dL_circles_130 ?_
  refine wm_goto hC 153 (pc := 131) dL_circles_131 (by decide) ?_
  refine wm_istore hC  (pc := 153) dL_circles_153  (by decide) rfl ?_
  refine wm_show (L' := [some (mvR 0), some (mvI 4), some (mvI 3), some (mvI 1), some (mvI 1)]) rfl rfl rfl rfl ?_
  refine wm_iload hC  (pc := 155) dL_circles_155 rfl ?_
  refine wm_if_eq hC 189 (pc := 157) dL_circles_157 (by decide) (by omega) (fun h => absurd h (by decide)) (fun _ => ?_)
  refine wm_aload_n hC 0 (pc := 160) dL_circles_160 rfl rfl ?_
  refine wm_iconst hC (pc := 161) dL_circles_161 ?_
  refine wm_iload_n hC 1 (pc := 162) dL_circles_162 rfl rfl ?_
  refine wm_iload_n hC 2 (pc := 163) dL_circles_163 rfl rfl ?_
  refine wm_iload_n hC 2 (pc := 164) dL_circles_164 rfl rfl ?_
  refine wm_iconst hC (pc := 165) dL_circles_165 ?_
  refine wm_icmp_ne hC 174 (pc := 166) dL_circles_166 (by decide) (by omega) (by omega) (fun _ => ?_) (fun h => absurd h (by decide))
  refine wm_iload_n hC 1 (pc := 174) dL_circles_174 rfl rfl ?_
  refine wm_iconst hC (pc := 175) dL_circles_175 ?_
  refine wm_iadd hC (pc := 176) dL_circles_176 ?_
  refine wm_eqI (y := 5) (by decide) ?_
  refine wm_bipush hC (pc := 177) dL_circles_177 (by decide) ?_
  refine wm_irem hC (pc := 179) dL_circles_179 (by omega) (by omega) ?_
  refine wm_eqI (y := 5) (by decide) ?_
  refine wm_iV hC cv_L_32 kc_X8_arrow rfl rfl (t_arrowV hO (by decide)) rfl (by decide) rfl (Nat.le_of_ble_eq_true rfl) (pc := 180) dL_circles_180 (fun z180 w180 hw180 => ?_)
  obtain ⟨e180, hO⟩ := hw180
  replace e180 := e180.trans civ115
  subst e180
  have hO := hO.to civ116
  generalize push Hs (tb ciN57) = Hs at hO
  refine wm_iconst hC (pc := 183) dL_circles_183 ?_
  refine wm_icmp_ge hC 189 (pc := 184) dL_circles_184 (by decide) (by omega) (by omega) (fun _ => ?_) (fun h => absurd h (by decide))
  refine wm_iinc hC (v := 4) (pc := 189) dL_circles_189 rfl (by decide) (by decide) rfl ?_
  refine wm_show (L' := [some (mvR 0), some (mvI 4), some (mvI 4), some (mvI 1), some (mvI 1)]) rfl rfl rfl rfl ?_
  refine wm_goto hC 46 (pc := 192) dL_circles_192 (by decide) ?_
  refine wm_iload_n hC 2 (pc := 46) dL_circles_46 rfl rfl ?_
  refine wm_bipush hC (pc := 47) dL_circles_47 (by decide) ?_
  refine wm_icmp_ge hC 195 (pc := 49) dL_circles_49 (by decide) (by omega) (by omega) (fun h => absurd h (by decide)) (fun _ => ?_)
  refine wm_iload_n hC 1 (pc := 52) dL_circles_52 rfl rfl ?_
  refine wm_bipush hC (pc := 53) dL_circles_53 (by decide) ?_
  refine wm_icmp_ge hC 71 (pc := 55) dL_circles_55 (by decide) (by omega) (by omega) (fun h => absurd h (by decide)) (fun _ => ?_)
  refine wm_iload_n hC 2 (pc := 58) dL_circles_58 rfl rfl ?_
  refine wm_iconst hC (pc := 59) dL_circles_59 ?_
  refine wm_icmp_ge hC 67 (pc := 60) dL_circles_60 (by decide) (by omega) (by omega) (fun h => absurd h (by decide)) (fun _ => ?_)
  refine wm_iconst hC (pc := 63) dL_circles_63 ?_
  refine wm_goto hC 86 (pc := 64) dL_circles_64 (by decide) ?_
  refine wm_istore_n hC 3 (pc := 86) dL_circles_86 rfl (by decide) rfl ?_
  refine wm_show (L' := [some (mvR 0), some (mvI 4), some (mvI 4), some (mvI 1), some (mvI 1)]) rfl rfl rfl rfl ?_
  refine wm_iload_n hC 3 (pc := 87) dL_circles_87 rfl rfl ?_
  refine wm_if_eq hC 120 (pc := 88) dL_circles_88 (by decide) (by omega) (fun h => absurd h (by decide)) (fun _ => ?_)
  refine wm_aload_n hC 0 (pc := 91) dL_circles_91 rfl rfl ?_
  refine wm_iconst hC (pc := 92) dL_circles_92 ?_
  refine wm_iload_n hC 1 (pc := 93) dL_circles_93 rfl rfl ?_
  refine wm_iload_n hC 2 (pc := 94) dL_circles_94 rfl rfl ?_
  refine wm_iload_n hC 2 (pc := 95) dL_circles_95 rfl rfl ?_
  refine wm_iconst hC (pc := 96) dL_circles_96 ?_
  refine wm_icmp_ne hC 105 (pc := 97) dL_circles_97 (by decide) (by omega) (by omega) (fun _ => ?_) (fun h => absurd h (by decide))
  refine wm_iload_n hC 1 (pc := 105) dL_circles_105 rfl rfl ?_
  refine wm_iconst hC (pc := 106) dL_circles_106 ?_
  refine wm_iadd hC (pc := 107) dL_circles_107 ?_
  refine wm_eqI (y := 5) (by decide) ?_
  refine wm_bipush hC (pc := 108) dL_circles_108 (by decide) ?_
  refine wm_irem hC (pc := 110) dL_circles_110 (by omega) (by omega) ?_
  refine wm_eqI (y := 5) (by decide) ?_
  refine wm_iV hC cv_L_32 kc_X8_arrow rfl rfl (t_arrowV hO (by decide)) rfl (by decide) rfl (Nat.le_of_ble_eq_true rfl) (pc := 111) dL_circles_111 (fun z111 w111 hw111 => ?_)
  obtain ⟨e111, hO⟩ := hw111
  replace e111 := e111.trans civ117
  subst e111
  have hO := hO.to civ118
  generalize push Hs (tb ciN58) = Hs at hO
  refine wm_iconst hC (pc := 114) dL_circles_114 ?_
  refine wm_icmp_ge hC 120 (pc := 115) dL_circles_115 (by decide) (by omega) (by omega) (fun _ => ?_) (fun h => absurd h (by decide))
  refine wm_iload_n hC 1 (pc := 120) dL_circles_120 rfl rfl ?_
  refine wm_iconst hC (pc := 121) dL_circles_121 ?_
  refine wm_icmp_ge hC 138 (pc := 122) dL_circles_122 (by decide) (by omega) (by omega) (fun h => absurd h (by decide)) (fun _ => ?_)
  refine wm_iload_n hC 2 (pc := 125) dL_circles_125 rfl rfl ?_
  refine wm_iconst hC (pc := 126) dL_circles_126 ?_
  refine wm_icmp_ge hC 134 (pc := 127) dL_circles_127 (by decide) (by omega) (by omega) (fun h => absurd h (by decide)) (fun _ => ?_)
  refine wm_iconst hC (pc := 130) dL_circles_130 ?_
  refine wm_goto hC 153 (pc := 131) dL_circles_131 (by decide) ?_
  refine wm_istore hC  (pc := 153) dL_circles_153  (by decide) rfl ?_
  refine wm_show (L' := [some (mvR 0), some (mvI 4), some (mvI 4), some (mvI 1), some (mvI 1)]) rfl rfl rfl rfl ?_
  refine wm_iload hC  (pc := 155) dL_circles_155 rfl ?_
  refine wm_if_eq hC 189 (pc := 157) dL_circles_157 (by decide) (by omega) (fun h => absurd h (by decide)) (fun _ => ?_)
  refine wm_aload_n hC 0 (pc := 160) dL_circles_160 rfl rfl ?_
  refine wm_iconst hC (pc := 161) dL_circles_161 ?_
  refine wm_iload_n hC 1 (pc := 162) dL_circles_162 rfl rfl ?_
  refine wm_iload_n hC 2 (pc := 163) dL_circles_163 rfl rfl ?_
  refine wm_iload_n hC 2 (pc := 164) dL_circles_164 rfl rfl ?_
  refine wm_iconst hC (pc := 165) dL_circles_165 ?_
  refine wm_icmp_ne hC 174 (pc := 166) dL_circles_166 (by decide) (by omega) (by omega) (fun _ => ?_) (fun h => absurd h (by decide))
  refine wm_iload_n hC 1 (pc := 174) dL_circles_174 rfl rfl ?_
  refine wm_iconst hC (pc := 175) dL_circles_175 ?_
  refine wm_iadd hC (pc := 176) dL_circles_176 ?_
  refine wm_eqI (y := 5) (by decide) ?_
  refine wm_bipush hC (pc := 177) dL_circles_177 (by decide) ?_
  refine wm_irem hC (pc := 179) dL_circles_179 (by omega) (by omega) ?_
  refine wm_eqI (y := 5) (by decide) ?_
  refine wm_iV hC cv_L_32 kc_X8_arrow rfl rfl (t_arrowV hO (by decide)) rfl (by decide) rfl (Nat.le_of_ble_eq_true rfl) (pc := 180) dL_circles_180 (fun z180 w180 hw180 => ?_)
  obtain ⟨e180, hO⟩ := hw180
  replace e180 := e180.trans civ119
  subst e180
  have hO := hO.to civ120
  generalize push Hs (tb ciN59) = Hs at hO
  refine wm_iconst hC (pc := 183) dL_circles_183 ?_
  refine wm_icmp_ge hC 189 (pc := 184) dL_circles_184 (by decide) (by omega) (by omega) (fun _ => ?_) (fun h => absurd h (by decide))
  refine wm_iinc hC (v := 5) (pc := 189) dL_circles_189 rfl (by decide) (by decide) rfl ?_
  refine wm_show (L' := [some (mvR 0), some (mvI 4), some (mvI 5), some (mvI 1), some (mvI 1)]) rfl rfl rfl rfl ?_
  refine wm_goto hC 46 (pc := 192) dL_circles_192 (by decide) ?_
  refine wm_iload_n hC 2 (pc := 46) dL_circles_46 rfl rfl ?_
  refine wm_bipush hC (pc := 47) dL_circles_47 (by decide) ?_
  refine wm_icmp_ge hC 195 (pc := 49) dL_circles_49 (by decide) (by omega) (by omega) (fun h => absurd h (by decide)) (fun _ => ?_)
  refine wm_iload_n hC 1 (pc := 52) dL_circles_52 rfl rfl ?_
  refine wm_bipush hC (pc := 53) dL_circles_53 (by decide) ?_
  refine wm_icmp_ge hC 71 (pc := 55) dL_circles_55 (by decide) (by omega) (by omega) (fun h => absurd h (by decide)) (fun _ => ?_)
  refine wm_iload_n hC 2 (pc := 58) dL_circles_58 rfl rfl ?_
  refine wm_iconst hC (pc := 59) dL_circles_59 ?_
  refine wm_icmp_ge hC 67 (pc := 60) dL_circles_60 (by decide) (by omega) (by omega) (fun _ => ?_) (fun h => absurd h (by decide))
  refine wm_iconst hC (pc := 67) dL_circles_67 ?_
  refine wm_goto hC 86 (pc := 68) dL_circles_68 (by decide) ?_
  refine wm_istore_n hC 3 (pc := 86) dL_circles_86 rfl (by decide) rfl ?_
  refine wm_show (L' := [some (mvR 0), some (mvI 4), some (mvI 5), some (mvI 0), some (mvI 1)]) rfl rfl rfl rfl ?_
  refine wm_iload_n hC 3 (pc := 87) dL_circles_87 rfl rfl ?_
  refine wm_if_eq hC 120 (pc := 88) dL_circles_88 (by decide) (by omega) (fun _ => ?_) (fun h => absurd h (by decide))
  refine wm_iload_n hC 1 (pc := 120) dL_circles_120 rfl rfl ?_
  refine wm_iconst hC (pc := 121) dL_circles_121 ?_
  refine wm_icmp_ge hC 138 (pc := 122) dL_circles_122 (by decide) (by omega) (by omega) (fun h => absurd h (by decide)) (fun _ => ?_)
  refine wm_iload_n hC 2 (pc := 125) dL_circles_125 rfl rfl ?_
  refine wm_iconst hC (pc := 126) dL_circles_126 ?_
  refine wm_icmp_ge hC 134 (pc := 127) dL_circles_127 (by decide) (by omega) (by omega) (fun _ => ?_) (fun h => absurd h (by decide))
  refine wm_iconst hC (pc := 134) dL_circles_134 ?_
  refine wm_goto hC 153 (pc := 135) dL_circles_135 (by decide) ?_
  refine wm_istore hC  (pc := 153) dL_circles_153  (by decide) rfl ?_
  refine wm_show (L' := [some (mvR 0), some (mvI 4), some (mvI 5), some (mvI 0), some (mvI 0)]) rfl rfl rfl rfl ?_
  refine wm_iload hC  (pc := 155) dL_circles_155 rfl ?_
  refine wm_if_eq hC 189 (pc := 157) dL_circles_157 (by decide) (by omega) (fun _ => ?_) (fun h => absurd h (by decide))
  refine wm_iinc hC (v := 6) (pc := 189) dL_circles_189 rfl (by decide) (by decide) rfl ?_
  refine wm_show (L' := [some (mvR 0), some (mvI 4), some (mvI 6), some (mvI 0), some (mvI 0)]) rfl rfl rfl rfl ?_
  refine wm_goto hC 46 (pc := 192) dL_circles_192 (by decide) ?_
  refine wm_iload_n hC 2 (pc := 46) dL_circles_46 rfl rfl ?_
  refine wm_bipush hC (pc := 47) dL_circles_47 (by decide) ?_
  refine wm_icmp_ge hC 195 (pc := 49) dL_circles_49 (by decide) (by omega) (by omega) (fun _ => ?_) (fun h => absurd h (by decide))
  refine wm_iinc hC (v := 5) (pc := 195) dL_circles_195 rfl (by decide) (by decide) rfl ?_
  refine wm_show (L' := [some (mvR 0), some (mvI 5), some (mvI 6), some (mvI 0), some (mvI 0)]) rfl rfl rfl rfl ?_
  refine wm_goto hC 10 (pc := 198) dL_circles_198 (by decide) ?_
  exact ciS5 hC hO none _ _ _
set_option maxRecDepth 100000 in
set_option maxHeartbeats 4000000 in
theorem ciS3 {l : Launch} {G : mG} {K : mK} {w : mW} {Hs : List Pn} (hC : mC G K 5 RL cL_circles (some .boolean)) (hO : Ob w (tb ciN36) Hs [] (fun _ => 0)) (x1 x2 x3 x4 : Option mV) : Wm l G K 9 5 (qI (fun z _ => z = 1)) 10 [some (mvR 0), some (mvI 3), x2, x3, x4] [] w := by
  refine wm_iload_n hC 1 (pc := 10) dL_circles_10 rfl rfl ?_
  refine wm_bipush hC (pc := 11) dL_circles_11 (by decide) ?_
  refine wm_icmp_ge hC 201 (pc := 13) dL_circles_13 (by decide) (by omega) (by omega) (fun h => absurd h (by decide)) (fun _ => ?_)
  refine wm_aload_n hC 0 (pc := 16) dL_circles_16 rfl rfl ?_
  refine wm_iconst hC (pc := 17) dL_circles_17 ?_
  refine wm_iload_n hC 1 (pc := 18) dL_circles_18 rfl rfl ?_
  refine wm_iconst hC (pc := 19) dL_circles_19 ?_
  refine wm_iV hC cv_L_26 kc_X8_kind rfl rfl (t_kindV hO (by decide)) rfl (by decide) rfl (Nat.le_of_ble_eq_true rfl) (pc := 20) dL_circles_20 (fun z20 w20 hw20 => ?_)
  obtain ⟨e20, hO⟩ := hw20
  replace e20 := e20.trans civ73
  subst e20
  have hO := hO.to civ74
  generalize push Hs (tb ciN36) = Hs at hO
  refine wm_if_ne hC 42 (pc := 23) dL_circles_23 (by decide) (by omega) (fun h => absurd h (by decide)) (fun _ => ?_)
  refine wm_iload_n hC 1 (pc := 26) dL_circles_26 rfl rfl ?_
  refine wm_bipush hC (pc := 27) dL_circles_27 (by decide) ?_
  refine wm_icmp_ge hC 44 (pc := 29) dL_circles_29 (by decide) (by omega) (by omega) (fun h => absurd h (by decide)) (fun _ => ?_)
  refine wm_aload_n hC 0 (pc := 32) dL_circles_32 rfl rfl ?_
  refine wm_iconst hC (pc := 33) dL_circles_33 ?_
  refine wm_iload_n hC 1 (pc := 34) dL_circles_34 rfl rfl ?_
  refine wm_iconst hC (pc := 35) dL_circles_35 ?_
  refine wm_iV hC cv_L_26 kc_X8_kind rfl rfl (t_kindV hO (by decide)) rfl (by decide) rfl (Nat.le_of_ble_eq_true rfl) (pc := 36) dL_circles_36 (fun z36 w36 hw36 => ?_)
  obtain ⟨e36, hO⟩ := hw36
  replace e36 := e36.trans civ75
  subst e36
  have hO := hO.to civ76
  generalize push Hs (tb ciN37) = Hs at hO
  refine wm_if_eq hC 44 (pc := 39) dL_circles_39 (by decide) (by omega) (fun _ => ?_) (fun h => absurd h (by decide))
  refine wm_iconst hC (pc := 44) dL_circles_44 ?_
  refine wm_istore_n hC 2 (pc := 45) dL_circles_45 rfl (by decide) rfl ?_
  refine wm_show (L' := [some (mvR 0), some (mvI 3), some (mvI 0), x3, x4]) rfl rfl rfl rfl ?_
  refine wm_iload_n hC 2 (pc := 46) dL_circles_46 rfl rfl ?_
  refine wm_bipush hC (pc := 47) dL_circles_47 (by decide) ?_
  refine wm_icmp_ge hC 195 (pc := 49) dL_circles_49 (by decide) (by omega) (by omega) (fun h => absurd h (by decide)) (fun _ => ?_)
  refine wm_iload_n hC 1 (pc := 52) dL_circles_52 rfl rfl ?_
  refine wm_bipush hC (pc := 53) dL_circles_53 (by decide) ?_
  refine wm_icmp_ge hC 71 (pc := 55) dL_circles_55 (by decide) (by omega) (by omega) (fun h => absurd h (by decide)) (fun _ => ?_)
  refine wm_iload_n hC 2 (pc := 58) dL_circles_58 rfl rfl ?_
  refine wm_iconst hC (pc := 59) dL_circles_59 ?_
  refine wm_icmp_ge hC 67 (pc := 60) dL_circles_60 (by decide) (by omega) (by omega) (fun h => absurd h (by decide)) (fun _ => ?_)
  refine wm_iconst hC (pc := 63) dL_circles_63 ?_
  refine wm_goto hC 86 (pc := 64) dL_circles_64 (by decide) ?_
  refine wm_istore_n hC 3 (pc := 86) dL_circles_86 rfl (by decide) rfl ?_
  refine wm_show (L' := [some (mvR 0), some (mvI 3), some (mvI 0), some (mvI 1), x4]) rfl rfl rfl rfl ?_
  refine wm_iload_n hC 3 (pc := 87) dL_circles_87 rfl rfl ?_
  refine wm_if_eq hC 120 (pc := 88) dL_circles_88 (by decide) (by omega) (fun h => absurd h (by decide)) (fun _ => ?_)
  refine wm_aload_n hC 0 (pc := 91) dL_circles_91 rfl rfl ?_
  refine wm_iconst hC (pc := 92) dL_circles_92 ?_
  refine wm_iload_n hC 1 (pc := 93) dL_circles_93 rfl rfl ?_
  refine wm_iload_n hC 2 (pc := 94) dL_circles_94 rfl rfl ?_
  refine wm_iload_n hC 2 (pc := 95) dL_circles_95 rfl rfl ?_
  refine wm_iconst hC (pc := 96) dL_circles_96 ?_
  refine wm_icmp_ne hC 105 (pc := 97) dL_circles_97 (by decide) (by omega) (by omega) (fun _ => ?_) (fun h => absurd h (by decide))
  refine wm_iload_n hC 1 (pc := 105) dL_circles_105 rfl rfl ?_
  refine wm_iconst hC (pc := 106) dL_circles_106 ?_
  refine wm_iadd hC (pc := 107) dL_circles_107 ?_
  refine wm_eqI (y := 4) (by decide) ?_
  refine wm_bipush hC (pc := 108) dL_circles_108 (by decide) ?_
  refine wm_irem hC (pc := 110) dL_circles_110 (by omega) (by omega) ?_
  refine wm_eqI (y := 4) (by decide) ?_
  refine wm_iV hC cv_L_32 kc_X8_arrow rfl rfl (t_arrowV hO (by decide)) rfl (by decide) rfl (Nat.le_of_ble_eq_true rfl) (pc := 111) dL_circles_111 (fun z111 w111 hw111 => ?_)
  obtain ⟨e111, hO⟩ := hw111
  replace e111 := e111.trans civ77
  subst e111
  have hO := hO.to civ78
  generalize push Hs (tb ciN38) = Hs at hO
  refine wm_iconst hC (pc := 114) dL_circles_114 ?_
  refine wm_icmp_ge hC 120 (pc := 115) dL_circles_115 (by decide) (by omega) (by omega) (fun _ => ?_) (fun h => absurd h (by decide))
  refine wm_iload_n hC 1 (pc := 120) dL_circles_120 rfl rfl ?_
  refine wm_iconst hC (pc := 121) dL_circles_121 ?_
  refine wm_icmp_ge hC 138 (pc := 122) dL_circles_122 (by decide) (by omega) (by omega) (fun h => absurd h (by decide)) (fun _ => ?_)
  refine wm_iload_n hC 2 (pc := 125) dL_circles_125 rfl rfl ?_
  refine wm_iconst hC (pc := 126) dL_circles_126 ?_
  refine wm_icmp_ge hC 134 (pc := 127) dL_circles_127 (by decide) (by omega) (by omega) (fun h => absurd h (by decide)) (fun _ => ?_)
  refine wm_iconst hC (pc := 130) dL_circles_130 ?_
  refine wm_goto hC 153 (pc := 131) dL_circles_131 (by decide) ?_
  refine wm_istore hC  (pc := 153) dL_circles_153  (by decide) rfl ?_
  refine wm_show (L' := [some (mvR 0), some (mvI 3), some (mvI 0), some (mvI 1), some (mvI 1)]) rfl rfl rfl rfl ?_
  refine wm_iload hC  (pc := 155) dL_circles_155 rfl ?_
  refine wm_if_eq hC 189 (pc := 157) dL_circles_157 (by decide) (by omega) (fun h => absurd h (by decide)) (fun _ => ?_)
  refine wm_aload_n hC 0 (pc := 160) dL_circles_160 rfl rfl ?_
  refine wm_iconst hC (pc := 161) dL_circles_161 ?_
  refine wm_iload_n hC 1 (pc := 162) dL_circles_162 rfl rfl ?_
  refine wm_iload_n hC 2 (pc := 163) dL_circles_163 rfl rfl ?_
  refine wm_iload_n hC 2 (pc := 164) dL_circles_164 rfl rfl ?_
  refine wm_iconst hC (pc := 165) dL_circles_165 ?_
  refine wm_icmp_ne hC 174 (pc := 166) dL_circles_166 (by decide) (by omega) (by omega) (fun _ => ?_) (fun h => absurd h (by decide))
  refine wm_iload_n hC 1 (pc := 174) dL_circles_174 rfl rfl ?_
  refine wm_iconst hC (pc := 175) dL_circles_175 ?_
  refine wm_iadd hC (pc := 176) dL_circles_176 ?_
  refine wm_eqI (y := 4) (by decide) ?_
  refine wm_bipush hC (pc := 177) dL_circles_177 (by decide) ?_
  refine wm_irem hC (pc := 179) dL_circles_179 (by omega) (by omega) ?_
  refine wm_eqI (y := 4) (by decide) ?_
  refine wm_iV hC cv_L_32 kc_X8_arrow rfl rfl (t_arrowV hO (by decide)) rfl (by decide) rfl (Nat.le_of_ble_eq_true rfl) (pc := 180) dL_circles_180 (fun z180 w180 hw180 => ?_)
  obtain ⟨e180, hO⟩ := hw180
  replace e180 := e180.trans civ79
  subst e180
  have hO := hO.to civ80
  generalize push Hs (tb ciN39) = Hs at hO
  refine wm_iconst hC (pc := 183) dL_circles_183 ?_
  refine wm_icmp_ge hC 189 (pc := 184) dL_circles_184 (by decide) (by omega) (by omega) (fun _ => ?_) (fun h => absurd h (by decide))
  refine wm_iinc hC (v := 1) (pc := 189) dL_circles_189 rfl (by decide) (by decide) rfl ?_
  refine wm_show (L' := [some (mvR 0), some (mvI 3), some (mvI 1), some (mvI 1), some (mvI 1)]) rfl rfl rfl rfl ?_
  refine wm_goto hC 46 (pc := 192) dL_circles_192 (by decide) ?_
  refine wm_iload_n hC 2 (pc := 46) dL_circles_46 rfl rfl ?_
  refine wm_bipush hC (pc := 47) dL_circles_47 (by decide) ?_
  refine wm_icmp_ge hC 195 (pc := 49) dL_circles_49 (by decide) (by omega) (by omega) (fun h => absurd h (by decide)) (fun _ => ?_)
  refine wm_iload_n hC 1 (pc := 52) dL_circles_52 rfl rfl ?_
  refine wm_bipush hC (pc := 53) dL_circles_53 (by decide) ?_
  refine wm_icmp_ge hC 71 (pc := 55) dL_circles_55 (by decide) (by omega) (by omega) (fun h => absurd h (by decide)) (fun _ => ?_)
  refine wm_iload_n hC 2 (pc := 58) dL_circles_58 rfl rfl ?_
  refine wm_iconst hC (pc := 59) dL_circles_59 ?_
  refine wm_icmp_ge hC 67 (pc := 60) dL_circles_60 (by decide) (by omega) (by omega) (fun h => absurd h (by decide)) (fun _ => ?_)
  refine wm_iconst hC (pc := 63) dL_circles_63 ?_
  refine wm_goto hC 86 (pc := 64) dL_circles_64 (by decide) ?_
  refine wm_istore_n hC 3 (pc := 86) dL_circles_86 rfl (by decide) rfl ?_
  refine wm_show (L' := [some (mvR 0), some (mvI 3), some (mvI 1), some (mvI 1), some (mvI 1)]) rfl rfl rfl rfl ?_
  refine wm_iload_n hC 3 (pc := 87) dL_circles_87 rfl rfl ?_
  refine wm_if_eq hC 120 (pc := 88) dL_circles_88 (by decide) (by omega) (fun h => absurd h (by decide)) (fun _ => ?_)
  refine wm_aload_n hC 0 (pc := 91) dL_circles_91 rfl rfl ?_
  refine wm_iconst hC (pc := 92) dL_circles_92 ?_
  refine wm_iload_n hC 1 (pc := 93) dL_circles_93 rfl rfl ?_
  refine wm_iload_n hC 2 (pc := 94) dL_circles_94 rfl rfl ?_
  refine wm_iload_n hC 2 (pc := 95) dL_circles_95 rfl rfl ?_
  refine wm_iconst hC (pc := 96) dL_circles_96 ?_
  refine wm_icmp_ne hC 105 (pc := 97) dL_circles_97 (by decide) (by omega) (by omega) (fun _ => ?_) (fun h => absurd h (by decide))
  refine wm_iload_n hC 1 (pc := 105) dL_circles_105 rfl rfl ?_
  refine wm_iconst hC (pc := 106) dL_circles_106 ?_
  refine wm_iadd hC (pc := 107) dL_circles_107 ?_
  refine wm_eqI (y := 4) (by decide) ?_
  refine wm_bipush hC (pc := 108) dL_circles_108 (by decide) ?_
  refine wm_irem hC (pc := 110) dL_circles_110 (by omega) (by omega) ?_
  refine wm_eqI (y := 4) (by decide) ?_
  refine wm_iV hC cv_L_32 kc_X8_arrow rfl rfl (t_arrowV hO (by decide)) rfl (by decide) rfl (Nat.le_of_ble_eq_true rfl) (pc := 111) dL_circles_111 (fun z111 w111 hw111 => ?_)
  obtain ⟨e111, hO⟩ := hw111
  replace e111 := e111.trans civ81
  subst e111
  have hO := hO.to civ82
  generalize push Hs (tb ciN40) = Hs at hO
  refine wm_iconst hC (pc := 114) dL_circles_114 ?_
  refine wm_icmp_ge hC 120 (pc := 115) dL_circles_115 (by decide) (by omega) (by omega) (fun _ => ?_) (fun h => absurd h (by decide))
  refine wm_iload_n hC 1 (pc := 120) dL_circles_120 rfl rfl ?_
  refine wm_iconst hC (pc := 121) dL_circles_121 ?_
  refine wm_icmp_ge hC 138 (pc := 122) dL_circles_122 (by decide) (by omega) (by omega) (fun h => absurd h (by decide)) (fun _ => ?_)
  refine wm_iload_n hC 2 (pc := 125) dL_circles_125 rfl rfl ?_
  refine wm_iconst hC (pc := 126) dL_circles_126 ?_
  refine wm_icmp_ge hC 134 (pc := 127) dL_circles_127 (by decide) (by omega) (by omega) (fun h => absurd h (by decide)) (fun _ => ?_)
  refine wm_iconst hC (pc := 130) dL_circles_130 ?_
  refine wm_goto hC 153 (pc := 131) dL_circles_131 (by decide) ?_
  refine wm_istore hC  (pc := 153) dL_circles_153  (by decide) rfl ?_
  refine wm_show (L' := [some (mvR 0), some (mvI 3), some (mvI 1), some (mvI 1), some (mvI 1)]) rfl rfl rfl rfl ?_
  refine wm_iload hC  (pc := 155) dL_circles_155 rfl ?_
  refine wm_if_eq hC 189 (pc := 157) dL_circles_157 (by decide) (by omega) (fun h => absurd h (by decide)) (fun _ => ?_)
  refine wm_aload_n hC 0 (pc := 160) dL_circles_160 rfl rfl ?_
  refine wm_iconst hC (pc := 161) dL_circles_161 ?_
  refine wm_iload_n hC 1 (pc := 162) dL_circles_162 rfl rfl ?_
  refine wm_iload_n hC 2 (pc := 163) dL_circles_163 rfl rfl ?_
  refine wm_iload_n hC 2 (pc := 164) dL_circles_164 rfl rfl ?_
  refine wm_iconst hC (pc := 165) dL_circles_165 ?_
  refine wm_icmp_ne hC 174 (pc := 166) dL_circles_166 (by decide) (by omega) (by omega) (fun _ => ?_) (fun h => absurd h (by decide))
  refine wm_iload_n hC 1 (pc := 174) dL_circles_174 rfl rfl ?_
  refine wm_iconst hC (pc := 175) dL_circles_175 ?_
  refine wm_iadd hC (pc := 176) dL_circles_176 ?_
  refine wm_eqI (y := 4) (by decide) ?_
  refine wm_bipush hC (pc := 177) dL_circles_177 (by decide) ?_
  refine wm_irem hC (pc := 179) dL_circles_179 (by omega) (by omega) ?_
  refine wm_eqI (y := 4) (by decide) ?_
  refine wm_iV hC cv_L_32 kc_X8_arrow rfl rfl (t_arrowV hO (by decide)) rfl (by decide) rfl (Nat.le_of_ble_eq_true rfl) (pc := 180) dL_circles_180 (fun z180 w180 hw180 => ?_)
  obtain ⟨e180, hO⟩ := hw180
  replace e180 := e180.trans civ83
  subst e180
  have hO := hO.to civ84
  generalize push Hs (tb ciN41) = Hs at hO
  refine wm_iconst hC (pc := 183) dL_circles_183 ?_
  refine wm_icmp_ge hC 189 (pc := 184) dL_circles_184 (by decide) (by omega) (by omega) (fun _ => ?_) (fun h => absurd h (by decide))
  refine wm_iinc hC (v := 2) (pc := 189) dL_circles_189 rfl (by decide) (by decide) rfl ?_
  refine wm_show (L' := [some (mvR 0), some (mvI 3), some (mvI 2), some (mvI 1), some (mvI 1)]) rfl rfl rfl rfl ?_
  refine wm_goto hC 46 (pc := 192) dL_circles_192 (by decide) ?_
  refine wm_iload_n hC 2 (pc := 46) dL_circles_46 rfl rfl ?_
  refine wm_bipush hC (pc := 47) dL_circles_47 (by decide) ?_
  refine wm_icmp_ge hC 195 (pc := 49) dL_circles_49 (by decide) (by omega) (by omega) (fun h => absurd h (by decide)) (fun _ => ?_)
  refine wm_iload_n hC 1 (pc := 52) dL_circles_52 rfl rfl ?_
  refine wm_bipush hC (pc := 53) dL_circles_53 (by decide) ?_
  refine wm_icmp_ge hC 71 (pc := 55) dL_circles_55 (by decide) (by omega) (by omega) (fun h => absurd h (by decide)) (fun _ => ?_)
  refine wm_iload_n hC 2 (pc := 58) dL_circles_58 rfl rfl ?_
  refine wm_iconst hC (pc := 59) dL_circles_59 ?_
  refine wm_icmp_ge hC 67 (pc := 60) dL_circles_60 (by decide) (by omega) (by omega) (fun h => absurd h (by decide)) (fun _ => ?_)
  refine wm_iconst hC (pc := 63) dL_circles_63 ?_
  refine wm_goto hC 86 (pc := 64) dL_circles_64 (by decide) ?_
  refine wm_istore_n hC 3 (pc := 86) dL_circles_86 rfl (by decide) rfl ?_
  refine wm_show (L' := [some (mvR 0), some (mvI 3), some (mvI 2), some (mvI 1), some (mvI 1)]) rfl rfl rfl rfl ?_
  refine wm_iload_n hC 3 (pc := 87) dL_circles_87 rfl rfl ?_
  refine wm_if_eq hC 120 (pc := 88) dL_circles_88 (by decide) (by omega) (fun h => absurd h (by decide)) (fun _ => ?_)
  refine wm_aload_n hC 0 (pc := 91) dL_circles_91 rfl rfl ?_
  refine wm_iconst hC (pc := 92) dL_circles_92 ?_
  refine wm_iload_n hC 1 (pc := 93) dL_circles_93 rfl rfl ?_
  refine wm_iload_n hC 2 (pc := 94) dL_circles_94 rfl rfl ?_
  refine wm_iload_n hC 2 (pc := 95) dL_circles_95 rfl rfl ?_
  refine wm_iconst hC (pc := 96) dL_circles_96 ?_
  refine wm_icmp_ne hC 105 (pc := 97) dL_circles_97 (by decide) (by omega) (by omega) (fun _ => ?_) (fun h => absurd h (by decide))
  refine wm_iload_n hC 1 (pc := 105) dL_circles_105 rfl rfl ?_
  refine wm_iconst hC (pc := 106) dL_circles_106 ?_
  refine wm_iadd hC (pc := 107) dL_circles_107 ?_
  refine wm_eqI (y := 4) (by decide) ?_
  refine wm_bipush hC (pc := 108) dL_circles_108 (by decide) ?_
  refine wm_irem hC (pc := 110) dL_circles_110 (by omega) (by omega) ?_
  refine wm_eqI (y := 4) (by decide) ?_
  refine wm_iV hC cv_L_32 kc_X8_arrow rfl rfl (t_arrowV hO (by decide)) rfl (by decide) rfl (Nat.le_of_ble_eq_true rfl) (pc := 111) dL_circles_111 (fun z111 w111 hw111 => ?_)
  obtain ⟨e111, hO⟩ := hw111
  replace e111 := e111.trans civ85
  subst e111
  have hO := hO.to civ86
  generalize push Hs (tb ciN42) = Hs at hO
  refine wm_iconst hC (pc := 114) dL_circles_114 ?_
  refine wm_icmp_ge hC 120 (pc := 115) dL_circles_115 (by decide) (by omega) (by omega) (fun _ => ?_) (fun h => absurd h (by decide))
  refine wm_iload_n hC 1 (pc := 120) dL_circles_120 rfl rfl ?_
  refine wm_iconst hC (pc := 121) dL_circles_121 ?_
  refine wm_icmp_ge hC 138 (pc := 122) dL_circles_122 (by decide) (by omega) (by omega) (fun h => absurd h (by decide)) (fun _ => ?_)
  refine wm_iload_n hC 2 (pc := 125) dL_circles_125 rfl rfl ?_
  refine wm_iconst hC (pc := 126) dL_circles_126 ?_
  refine wm_icmp_ge hC 134 (pc := 127) dL_circles_127 (by decide) (by omega) (by omega) (fun h => absurd h (by decide)) (fun _ => ?_)
  refine wm_iconst hC (pc := 130) dL_circles_130 ?_
  refine wm_goto hC 153 (pc := 131) dL_circles_131 (by decide) ?_
  refine wm_istore hC  (pc := 153) dL_circles_153  (by decide) rfl ?_
  refine wm_show (L' := [some (mvR 0), some (mvI 3), some (mvI 2), some (mvI 1), some (mvI 1)]) rfl rfl rfl rfl ?_
  refine wm_iload hC  (pc := 155) dL_circles_155 rfl ?_
  refine wm_if_eq hC 189 (pc := 157) dL_circles_157 (by decide) (by omega) (fun h => absurd h (by decide)) (fun _ => ?_)
  refine wm_aload_n hC 0 (pc := 160) dL_circles_160 rfl rfl ?_
  refine wm_iconst hC (pc := 161) dL_circles_161 ?_
  refine wm_iload_n hC 1 (pc := 162) dL_circles_162 rfl rfl ?_
  refine wm_iload_n hC 2 (pc := 163) dL_circles_163 rfl rfl ?_
  refine wm_iload_n hC 2 (pc := 164) dL_circles_164 rfl rfl ?_
  refine wm_iconst hC (pc := 165) dL_circles_165 ?_
  refine wm_icmp_ne hC 174 (pc := 166) dL_circles_166 (by decide) (by omega) (by omega) (fun _ => ?_) (fun h => absurd h (by decide))
  refine wm_iload_n hC 1 (pc := 174) dL_circles_174 rfl rfl ?_
  refine wm_iconst hC (pc := 175) dL_circles_175 ?_
  refine wm_iadd hC (pc := 176) dL_circles_176 ?_
  refine wm_eqI (y := 4) (by decide) ?_
  refine wm_bipush hC (pc := 177) dL_circles_177 (by decide) ?_
  refine wm_irem hC (pc := 179) dL_circles_179 (by omega) (by omega) ?_
  refine wm_eqI (y := 4) (by decide) ?_
  refine wm_iV hC cv_L_32 kc_X8_arrow rfl rfl (t_arrowV hO (by decide)) rfl (by decide) rfl (Nat.le_of_ble_eq_true rfl) (pc := 180) dL_circles_180 (fun z180 w180 hw180 => ?_)
  obtain ⟨e180, hO⟩ := hw180
  replace e180 := e180.trans civ87
  subst e180
  have hO := hO.to civ88
  generalize push Hs (tb ciN43) = Hs at hO
  refine wm_iconst hC (pc := 183) dL_circles_183 ?_
  refine wm_icmp_ge hC 189 (pc := 184) dL_circles_184 (by decide) (by omega) (by omega) (fun _ => ?_) (fun h => absurd h (by decide))
  refine wm_iinc hC (v := 3) (pc := 189) dL_circles_189 rfl (by decide) (by decide) rfl ?_
  refine wm_show (L' := [some (mvR 0), some (mvI 3), some (mvI 3), some (mvI 1), some (mvI 1)]) rfl rfl rfl rfl ?_
  refine wm_goto hC 46 (pc := 192) dL_circles_192 (by decide) ?_
  refine wm_iload_n hC 2 (pc := 46) dL_circles_46 rfl rfl ?_
  refine wm_bipush hC (pc := 47) dL_circles_47 (by decide) ?_
  refine wm_icmp_ge hC 195 (pc := 49) dL_circles_49 (by decide) (by omega) (by omega) (fun h => absurd h (by decide)) (fun _ => ?_)
  refine wm_iload_n hC 1 (pc := 52) dL_circles_52 rfl rfl ?_
  refine wm_bipush hC (pc := 53) dL_circles_53 (by decide) ?_
  refine wm_icmp_ge hC 71 (pc := 55) dL_circles_55 (by decide) (by omega) (by omega) (fun h => absurd h (by decide)) (fun _ => ?_)
  refine wm_iload_n hC 2 (pc := 58) dL_circles_58 rfl rfl ?_
  refine wm_iconst hC (pc := 59) dL_circles_59 ?_
  refine wm_icmp_ge hC 67 (pc := 60) dL_circles_60 (by decide) (by omega) (by omega) (fun h => absurd h (by decide)) (fun _ => ?_)
  refine wm_iconst hC (pc := 63) dL_circles_63 ?_
  refine wm_goto hC 86 (pc := 64) dL_circles_64 (by decide) ?_
  refine wm_istore_n hC 3 (pc := 86) dL_circles_86 rfl (by decide) rfl ?_
  refine wm_show (L' := [some (mvR 0), some (mvI 3), some (mvI 3), some (mvI 1), some (mvI 1)]) rfl rfl rfl rfl ?_
  refine wm_iload_n hC 3 (pc := 87) dL_circles_87 rfl rfl ?_
  refine wm_if_eq hC 120 (pc := 88) dL_circles_88 (by decide) (by omega) (fun h => absurd h (by decide)) (fun _ => ?_)
  refine wm_aload_n hC 0 (pc := 91) dL_circles_91 rfl rfl ?_
  refine wm_iconst hC (pc := 92) dL_circles_92 ?_
  refine wm_iload_n hC 1 (pc := 93) dL_circles_93 rfl rfl ?_
  refine wm_iload_n hC 2 (pc := 94) dL_circles_94 rfl rfl ?_
  refine wm_iload_n hC 2 (pc := 95) dL_circles_95 rfl rfl ?_
  refine wm_iconst hC (pc := 96) dL_circles_96 ?_
  refine wm_icmp_ne hC 105 (pc := 97) dL_circles_97 (by decide) (by omega) (by omega) (fun _ => ?_) (fun h => absurd h (by decide))
  refine wm_iload_n hC 1 (pc := 105) dL_circles_105 rfl rfl ?_
  refine wm_iconst hC (pc := 106) dL_circles_106 ?_
  refine wm_iadd hC (pc := 107) dL_circles_107 ?_
  refine wm_eqI (y := 4) (by decide) ?_
  refine wm_bipush hC (pc := 108) dL_circles_108 (by decide) ?_
  refine wm_irem hC (pc := 110) dL_circles_110 (by omega) (by omega) ?_
  refine wm_eqI (y := 4) (by decide) ?_
  refine wm_iV hC cv_L_32 kc_X8_arrow rfl rfl (t_arrowV hO (by decide)) rfl (by decide) rfl (Nat.le_of_ble_eq_true rfl) (pc := 111) dL_circles_111 (fun z111 w111 hw111 => ?_)
  obtain ⟨e111, hO⟩ := hw111
  replace e111 := e111.trans civ89
  subst e111
  have hO := hO.to civ90
  generalize push Hs (tb ciN44) = Hs at hO
  refine wm_iconst hC (pc := 114) dL_circles_114 ?_
  refine wm_icmp_ge hC 120 (pc := 115) dL_circles_115 (by decide) (by omega) (by omega) (fun _ => ?_) (fun h => absurd h (by decide))
  refine wm_iload_n hC 1 (pc := 120) dL_circles_120 rfl rfl ?_
  refine wm_iconst hC (pc := 121) dL_circles_121 ?_
  refine wm_icmp_ge hC 138 (pc := 122) dL_circles_122 (by decide) (by omega) (by omega) (fun h => absurd h (by decide)) (fun _ => ?_)
  refine wm_iload_n hC 2 (pc := 125) dL_circles_125 rfl rfl ?_
  refine wm_iconst hC (pc := 126) dL_circles_126 ?_
  refine wm_icmp_ge hC 134 (pc := 127) dL_circles_127 (by decide) (by omega) (by omega) (fun h => absurd h (by decide)) (fun _ => ?_)
  refine wm_iconst hC (pc := 130) dL_circles_130 ?_
  refine wm_goto hC 153 (pc := 131) dL_circles_131 (by decide) ?_
  refine wm_istore hC  (pc := 153) dL_circles_153  (by decide) rfl ?_
  refine wm_show (L' := [some (mvR 0), some (mvI 3), some (mvI 3), some (mvI 1), some (mvI 1)]) rfl rfl rfl rfl ?_
  refine wm_iload hC  (pc := 155) dL_circles_155 rfl ?_
  refine wm_if_eq hC 189 (pc := 157) dL_circles_157 (by decide) (by omega) (fun h => absurd h (by decide)) (fun _ => ?_)
  refine wm_aload_n hC 0 (pc := 160) dL_circles_160 rfl rfl ?_
  refine wm_iconst hC (pc := 161) dL_circles_161 ?_
  refine wm_iload_n hC 1 (pc := 162) dL_circles_162 rfl rfl ?_
  refine wm_iload_n hC 2 (pc := 163) dL_circles_163 rfl rfl ?_
  refine wm_iload_n hC 2 (pc := 164) dL_circles_164 rfl rfl ?_
  refine wm_iconst hC (pc := 165) dL_circles_165 ?_
  refine wm_icmp_ne hC 174 (pc := 166) dL_circles_166 (by decide) (by omega) (by omega) (fun _ => ?_) (fun h => absurd h (by decide))
  refine wm_iload_n hC 1 (pc := 174) dL_circles_174 rfl rfl ?_
  refine wm_iconst hC (pc := 175) dL_circles_175 ?_
  refine wm_iadd hC (pc := 176) dL_circles_176 ?_
  refine wm_eqI (y := 4) (by decide) ?_
  refine wm_bipush hC (pc := 177) dL_circles_177 (by decide) ?_
  refine wm_irem hC (pc := 179) dL_circles_179 (by omega) (by omega) ?_
  refine wm_eqI (y := 4) (by decide) ?_
  refine wm_iV hC cv_L_32 kc_X8_arrow rfl rfl (t_arrowV hO (by decide)) rfl (by decide) rfl (Nat.le_of_ble_eq_true rfl) (pc := 180) dL_circles_180 (fun z180 w180 hw180 => ?_)
  obtain ⟨e180, hO⟩ := hw180
  replace e180 := e180.trans civ91
  subst e180
  have hO := hO.to civ92
  generalize push Hs (tb ciN45) = Hs at hO
  refine wm_iconst hC (pc := 183) dL_circles_183 ?_
  refine wm_icmp_ge hC 189 (pc := 184) dL_circles_184 (by decide) (by omega) (by omega) (fun _ => ?_) (fun h => absurd h (by decide))
  refine wm_iinc hC (v := 4) (pc := 189) dL_circles_189 rfl (by decide) (by decide) rfl ?_
  refine wm_show (L' := [some (mvR 0), some (mvI 3), some (mvI 4), some (mvI 1), some (mvI 1)]) rfl rfl rfl rfl ?_
  refine wm_goto hC 46 (pc := 192) dL_circles_192 (by decide) ?_
  refine wm_iload_n hC 2 (pc := 46) dL_circles_46 rfl rfl ?_
  refine wm_bipush hC (pc := 47) dL_circles_47 (by decide) ?_
  refine wm_icmp_ge hC 195 (pc := 49) dL_circles_49 (by decide) (by omega) (by omega) (fun h => absurd h (by decide)) (fun _ => ?_)
  refine wm_iload_n hC 1 (pc := 52) dL_circles_52 rfl rfl ?_
  refine wm_bipush hC (pc := 53) dL_circles_53 (by decide) ?_
  refine wm_icmp_ge hC 71 (pc := 55) dL_circles_55 (by decide) (by omega) (by omega) (fun h => absurd h (by decide)) (fun _ => ?_)
  refine wm_iload_n hC 2 (pc := 58) dL_circles_58 rfl rfl ?_
  refine wm_iconst hC (pc := 59) dL_circles_59 ?_
  refine wm_icmp_ge hC 67 (pc := 60) dL_circles_60 (by decide) (by omega) (by omega) (fun h => absurd h (by decide)) (fun _ => ?_)
  refine wm_iconst hC (pc := 63) dL_circles_63 ?_
  refine wm_goto hC 86 (pc := 64) dL_circles_64 (by decide) ?_
  refine wm_istore_n hC 3 (pc := 86) dL_circles_86 rfl (by decide) rfl ?_
  refine wm_show (L' := [some (mvR 0), some (mvI 3), some (mvI 4), some (mvI 1), some (mvI 1)]) rfl rfl rfl rfl ?_
  refine wm_iload_n hC 3 (pc := 87) dL_circles_87 rfl rfl ?_
  refine wm_if_eq hC 120 (pc := 88) dL_circles_88 (by decide) (by omega) (fun h => absurd h (by decide)) (fun _ => ?_)
  refine wm_aload_n hC 0 (pc := 91) dL_circles_91 rfl rfl ?_
  refine wm_iconst hC (pc := 92) dL_circles_92 ?_
  refine wm_iload_n hC 1 (pc := 93) dL_circles_93 rfl rfl ?_
  refine wm_iload_n hC 2 (pc := 94) dL_circles_94 rfl rfl ?_
  refine wm_iload_n hC 2 (pc := 95) dL_circles_95 rfl rfl ?_
  refine wm_iconst hC (pc := 96) dL_circles_96 ?_
  refine wm_icmp_ne hC 105 (pc := 97) dL_circles_97 (by decide) (by omega) (by omega) (fun _ => ?_) (fun h => absurd h (by decide))
  refine wm_iload_n hC 1 (pc := 105) dL_circles_105 rfl rfl ?_
  refine wm_iconst hC (pc := 106) dL_circles_106 ?_
  refine wm_iadd hC (pc := 107) dL_circles_107 ?_
  refine wm_eqI (y := 4) (by decide) ?_
  refine wm_bipush hC (pc := 108) dL_circles_108 (by decide) ?_
  refine wm_irem hC (pc := 110) dL_circles_110 (by omega) (by omega) ?_
  refine wm_eqI (y := 4) (by decide) ?_
  refine wm_iV hC cv_L_32 kc_X8_arrow rfl rfl (t_arrowV hO (by decide)) rfl (by decide) rfl (Nat.le_of_ble_eq_true rfl) (pc := 111) dL_circles_111 (fun z111 w111 hw111 => ?_)
  obtain ⟨e111, hO⟩ := hw111
  replace e111 := e111.trans civ93
  subst e111
  have hO := hO.to civ94
  generalize push Hs (tb ciN46) = Hs at hO
  refine wm_iconst hC (pc := 114) dL_circles_114 ?_
  refine wm_icmp_ge hC 120 (pc := 115) dL_circles_115 (by decide) (by omega) (by omega) (fun _ => ?_) (fun h => absurd h (by decide))
  refine wm_iload_n hC 1 (pc := 120) dL_circles_120 rfl rfl ?_
  refine wm_iconst hC (pc := 121) dL_circles_121 ?_
  refine wm_icmp_ge hC 138 (pc := 122) dL_circles_122 (by decide) (by omega) (by omega) (fun h => absurd h (by decide)) (fun _ => ?_)
  refine wm_iload_n hC 2 (pc := 125) dL_circles_125 rfl rfl ?_
  refine wm_iconst hC (pc := 126) dL_circles_126 ?_
  refine wm_icmp_ge hC 134 (pc := 127) dL_circles_127 (by decide) (by omega) (by omega) (fun h => absurd h (by decide)) (fun _ => ?_)
  refine wm_iconst hC (pc := 130) dL_circles_130 ?_
  refine wm_goto hC 153 (pc := 131) dL_circles_131 (by decide) ?_
  refine wm_istore hC  (pc := 153) dL_circles_153  (by decide) rfl ?_
  refine wm_show (L' := [some (mvR 0), some (mvI 3), some (mvI 4), some (mvI 1), some (mvI 1)]) rfl rfl rfl rfl ?_
  refine wm_iload hC  (pc := 155) dL_circles_155 rfl ?_
  refine wm_if_eq hC 189 (pc := 157) dL_circles_157 (by decide) (by omega) (fun h => absurd h (by decide)) (fun _ => ?_)
  refine wm_aload_n hC 0 (pc := 160) dL_circles_160 rfl rfl ?_
  refine wm_iconst hC (pc := 161) dL_circles_161 ?_
  refine wm_iload_n hC 1 (pc := 162) dL_circles_162 rfl rfl ?_
  refine wm_iload_n hC 2 (pc := 163) dL_circles_163 rfl rfl ?_
  refine wm_iload_n hC 2 (pc := 164) dL_circles_164 rfl rfl ?_
  refine wm_iconst hC (pc := 165) dL_circles_165 ?_
  refine wm_icmp_ne hC 174 (pc := 166) dL_circles_166 (by decide) (by omega) (by omega) (fun _ => ?_) (fun h => absurd h (by decide))
  refine wm_iload_n hC 1 (pc := 174) dL_circles_174 rfl rfl ?_
  refine wm_iconst hC (pc := 175) dL_circles_175 ?_
  refine wm_iadd hC (pc := 176) dL_circles_176 ?_
  refine wm_eqI (y := 4) (by decide) ?_
  refine wm_bipush hC (pc := 177) dL_circles_177 (by decide) ?_
  refine wm_irem hC (pc := 179) dL_circles_179 (by omega) (by omega) ?_
  refine wm_eqI (y := 4) (by decide) ?_
  refine wm_iV hC cv_L_32 kc_X8_arrow rfl rfl (t_arrowV hO (by decide)) rfl (by decide) rfl (Nat.le_of_ble_eq_true rfl) (pc := 180) dL_circles_180 (fun z180 w180 hw180 => ?_)
  obtain ⟨e180, hO⟩ := hw180
  replace e180 := e180.trans civ95
  subst e180
  have hO := hO.to civ96
  generalize push Hs (tb ciN47) = Hs at hO
  refine wm_iconst hC (pc := 183) dL_circles_183 ?_
  refine wm_icmp_ge hC 189 (pc := 184) dL_circles_184 (by decide) (by omega) (by omega) (fun _ => ?_) (fun h => absurd h (by decide))
  refine wm_iinc hC (v := 5) (pc := 189) dL_circles_189 rfl (by decide) (by decide) rfl ?_
  refine wm_show (L' := [some (mvR 0), some (mvI 3), some (mvI 5), some (mvI 1), some (mvI 1)]) rfl rfl rfl rfl ?_
  refine wm_goto hC 46 (pc := 192) dL_circles_192 (by decide) ?_
  refine wm_iload_n hC 2 (pc := 46) dL_circles_46 rfl rfl ?_
  refine wm_bipush hC (pc := 47) dL_circles_47 (by decide) ?_
  refine wm_icmp_ge hC 195 (pc := 49) dL_circles_49 (by decide) (by omega) (by omega) (fun h => absurd h (by decide)) (fun _ => ?_)
  refine wm_iload_n hC 1 (pc := 52) dL_circles_52 rfl rfl ?_
  refine wm_bipush hC (pc := 53) dL_circles_53 (by decide) ?_
  refine wm_icmp_ge hC 71 (pc := 55) dL_circles_55 (by decide) (by omega) (by omega) (fun h => absurd h (by decide)) (fun _ => ?_)
  refine wm_iload_n hC 2 (pc := 58) dL_circles_58 rfl rfl ?_
  refine wm_iconst hC (pc := 59) dL_circles_59 ?_
  refine wm_icmp_ge hC 67 (pc := 60) dL_circles_60 (by decide) (by omega) (by omega) (fun _ => ?_) (fun h => absurd h (by decide))
  refine wm_iconst hC (pc := 67) dL_circles_67 ?_
  refine wm_goto hC 86 (pc := 68) dL_circles_68 (by decide) ?_
  refine wm_istore_n hC 3 (pc := 86) dL_circles_86 rfl (by decide) rfl ?_
  refine wm_show (L' := [some (mvR 0), some (mvI 3), some (mvI 5), some (mvI 0), some (mvI 1)]) rfl rfl rfl rfl ?_
  refine wm_iload_n hC 3 (pc := 87) dL_circles_87 rfl rfl ?_
  refine wm_if_eq hC 120 (pc := 88) dL_circles_88 (by decide) (by omega) (fun _ => ?_) (fun h => absurd h (by decide))
  refine wm_iload_n hC 1 (pc := 120) dL_circles_120 rfl rfl ?_
  refine wm_iconst hC (pc := 121) dL_circles_121 ?_
  refine wm_icmp_ge hC 138 (pc := 122) dL_circles_122 (by decide) (by omega) (by omega) (fun h => absurd h (by decide)) (fun _ => ?_)
  refine wm_iload_n hC 2 (pc := 125) dL_circles_125 rfl rfl ?_
  refine wm_iconst hC (pc := 126) dL_circles_126 ?_
  refine wm_icmp_ge hC 134 (pc := 127) dL_circles_127 (by decide) (by omega) (by omega) (fun _ => ?_) (fun h => absurd h (by decide))
  refine wm_iconst hC (pc := 134) dL_circles_134 ?_
  refine wm_goto hC 153 (pc := 135) dL_circles_135 (by decide) ?_
  refine wm_istore hC  (pc := 153) dL_circles_153  (by decide) rfl ?_
  refine wm_show (L' := [some (mvR 0), some (mvI 3), some (mvI 5), some (mvI 0), some (mvI 0)]) rfl rfl rfl rfl ?_
  refine wm_iload hC  (pc := 155) dL_circles_155 rfl ?_
  refine wm_if_eq hC 189 (pc := 157) dL_circles_157 (by decide) (by omega) (fun _ => ?_) (fun h => absurd h (by decide))
  refine wm_iinc hC (v := 6) (pc := 189) dL_circles_189 rfl (by decide) (by decide) rfl ?_
  refine wm_show (L' := [some (mvR 0), some (mvI 3), some (mvI 6), some (mvI 0), some (mvI 0)]) rfl rfl rfl rfl ?_
  refine wm_goto hC 46 (pc := 192) dL_circles_192 (by decide) ?_
  refine wm_iload_n hC 2 (pc := 46) dL_circles_46 rfl rfl ?_
  refine wm_bipush hC (pc := 47) dL_circles_47 (by decide) ?_
  refine wm_icmp_ge hC 195 (pc := 49) dL_circles_49 (by decide) (by omega) (by omega) (fun _ => ?_) (fun h => absurd h (by decide))
  refine wm_iinc hC (v := 4) (pc := 195) dL_circles_195 rfl (by decide) (by decide) rfl ?_
  refine wm_show (L' := [some (mvR 0), some (mvI 4), some (mvI 6), some (mvI 0), some (mvI 0)]) rfl rfl rfl rfl ?_
  refine wm_goto hC 10 (pc := 198) dL_circles_198 (by decide) ?_
  exact ciS4 hC hO none _ _ _
set_option maxRecDepth 100000 in
set_option maxHeartbeats 4000000 in
theorem ciS2 {l : Launch} {G : mG} {K : mK} {w : mW} {Hs : List Pn} (hC : mC G K 5 RL cL_circles (some .boolean)) (hO : Ob w (tb ciN24) Hs [] (fun _ => 0)) (x1 x2 x3 x4 : Option mV) : Wm l G K 9 5 (qI (fun z _ => z = 1)) 10 [some (mvR 0), some (mvI 2), x2, x3, x4] [] w := by
  refine wm_iload_n hC 1 (pc := 10) dL_circles_10 rfl rfl ?_
  refine wm_bipush hC (pc := 11) dL_circles_11 (by decide) ?_
  refine wm_icmp_ge hC 201 (pc := 13) dL_circles_13 (by decide) (by omega) (by omega) (fun h => absurd h (by decide)) (fun _ => ?_)
  refine wm_aload_n hC 0 (pc := 16) dL_circles_16 rfl rfl ?_
  refine wm_iconst hC (pc := 17) dL_circles_17 ?_
  refine wm_iload_n hC 1 (pc := 18) dL_circles_18 rfl rfl ?_
  refine wm_iconst hC (pc := 19) dL_circles_19 ?_
  refine wm_iV hC cv_L_26 kc_X8_kind rfl rfl (t_kindV hO (by decide)) rfl (by decide) rfl (Nat.le_of_ble_eq_true rfl) (pc := 20) dL_circles_20 (fun z20 w20 hw20 => ?_)
  obtain ⟨e20, hO⟩ := hw20
  replace e20 := e20.trans civ49
  subst e20
  have hO := hO.to civ50
  generalize push Hs (tb ciN24) = Hs at hO
  refine wm_if_ne hC 42 (pc := 23) dL_circles_23 (by decide) (by omega) (fun h => absurd h (by decide)) (fun _ => ?_)
  refine wm_iload_n hC 1 (pc := 26) dL_circles_26 rfl rfl ?_
  refine wm_bipush hC (pc := 27) dL_circles_27 (by decide) ?_
  refine wm_icmp_ge hC 44 (pc := 29) dL_circles_29 (by decide) (by omega) (by omega) (fun h => absurd h (by decide)) (fun _ => ?_)
  refine wm_aload_n hC 0 (pc := 32) dL_circles_32 rfl rfl ?_
  refine wm_iconst hC (pc := 33) dL_circles_33 ?_
  refine wm_iload_n hC 1 (pc := 34) dL_circles_34 rfl rfl ?_
  refine wm_iconst hC (pc := 35) dL_circles_35 ?_
  refine wm_iV hC cv_L_26 kc_X8_kind rfl rfl (t_kindV hO (by decide)) rfl (by decide) rfl (Nat.le_of_ble_eq_true rfl) (pc := 36) dL_circles_36 (fun z36 w36 hw36 => ?_)
  obtain ⟨e36, hO⟩ := hw36
  replace e36 := e36.trans civ51
  subst e36
  have hO := hO.to civ52
  generalize push Hs (tb ciN25) = Hs at hO
  refine wm_if_eq hC 44 (pc := 39) dL_circles_39 (by decide) (by omega) (fun _ => ?_) (fun h => absurd h (by decide))
  refine wm_iconst hC (pc := 44) dL_circles_44 ?_
  refine wm_istore_n hC 2 (pc := 45) dL_circles_45 rfl (by decide) rfl ?_
  refine wm_show (L' := [some (mvR 0), some (mvI 2), some (mvI 0), x3, x4]) rfl rfl rfl rfl ?_
  refine wm_iload_n hC 2 (pc := 46) dL_circles_46 rfl rfl ?_
  refine wm_bipush hC (pc := 47) dL_circles_47 (by decide) ?_
  refine wm_icmp_ge hC 195 (pc := 49) dL_circles_49 (by decide) (by omega) (by omega) (fun h => absurd h (by decide)) (fun _ => ?_)
  refine wm_iload_n hC 1 (pc := 52) dL_circles_52 rfl rfl ?_
  refine wm_bipush hC (pc := 53) dL_circles_53 (by decide) ?_
  refine wm_icmp_ge hC 71 (pc := 55) dL_circles_55 (by decide) (by omega) (by omega) (fun h => absurd h (by decide)) (fun _ => ?_)
  refine wm_iload_n hC 2 (pc := 58) dL_circles_58 rfl rfl ?_
  refine wm_iconst hC (pc := 59) dL_circles_59 ?_
  refine wm_icmp_ge hC 67 (pc := 60) dL_circles_60 (by decide) (by omega) (by omega) (fun h => absurd h (by decide)) (fun _ => ?_)
  refine wm_iconst hC (pc := 63) dL_circles_63 ?_
  refine wm_goto hC 86 (pc := 64) dL_circles_64 (by decide) ?_
  refine wm_istore_n hC 3 (pc := 86) dL_circles_86 rfl (by decide) rfl ?_
  refine wm_show (L' := [some (mvR 0), some (mvI 2), some (mvI 0), some (mvI 1), x4]) rfl rfl rfl rfl ?_
  refine wm_iload_n hC 3 (pc := 87) dL_circles_87 rfl rfl ?_
  refine wm_if_eq hC 120 (pc := 88) dL_circles_88 (by decide) (by omega) (fun h => absurd h (by decide)) (fun _ => ?_)
  refine wm_aload_n hC 0 (pc := 91) dL_circles_91 rfl rfl ?_
  refine wm_iconst hC (pc := 92) dL_circles_92 ?_
  refine wm_iload_n hC 1 (pc := 93) dL_circles_93 rfl rfl ?_
  refine wm_iload_n hC 2 (pc := 94) dL_circles_94 rfl rfl ?_
  refine wm_iload_n hC 2 (pc := 95) dL_circles_95 rfl rfl ?_
  refine wm_iconst hC (pc := 96) dL_circles_96 ?_
  refine wm_icmp_ne hC 105 (pc := 97) dL_circles_97 (by decide) (by omega) (by omega) (fun _ => ?_) (fun h => absurd h (by decide))
  refine wm_iload_n hC 1 (pc := 105) dL_circles_105 rfl rfl ?_
  refine wm_iconst hC (pc := 106) dL_circles_106 ?_
  refine wm_iadd hC (pc := 107) dL_circles_107 ?_
  refine wm_eqI (y := 3) (by decide) ?_
  refine wm_bipush hC (pc := 108) dL_circles_108 (by decide) ?_
  refine wm_irem hC (pc := 110) dL_circles_110 (by omega) (by omega) ?_
  refine wm_eqI (y := 3) (by decide) ?_
  refine wm_iV hC cv_L_32 kc_X8_arrow rfl rfl (t_arrowV hO (by decide)) rfl (by decide) rfl (Nat.le_of_ble_eq_true rfl) (pc := 111) dL_circles_111 (fun z111 w111 hw111 => ?_)
  obtain ⟨e111, hO⟩ := hw111
  replace e111 := e111.trans civ53
  subst e111
  have hO := hO.to civ54
  generalize push Hs (tb ciN26) = Hs at hO
  refine wm_iconst hC (pc := 114) dL_circles_114 ?_
  refine wm_icmp_ge hC 120 (pc := 115) dL_circles_115 (by decide) (by omega) (by omega) (fun _ => ?_) (fun h => absurd h (by decide))
  refine wm_iload_n hC 1 (pc := 120) dL_circles_120 rfl rfl ?_
  refine wm_iconst hC (pc := 121) dL_circles_121 ?_
  refine wm_icmp_ge hC 138 (pc := 122) dL_circles_122 (by decide) (by omega) (by omega) (fun h => absurd h (by decide)) (fun _ => ?_)
  refine wm_iload_n hC 2 (pc := 125) dL_circles_125 rfl rfl ?_
  refine wm_iconst hC (pc := 126) dL_circles_126 ?_
  refine wm_icmp_ge hC 134 (pc := 127) dL_circles_127 (by decide) (by omega) (by omega) (fun h => absurd h (by decide)) (fun _ => ?_)
  refine wm_iconst hC (pc := 130) dL_circles_130 ?_
  refine wm_goto hC 153 (pc := 131) dL_circles_131 (by decide) ?_
  refine wm_istore hC  (pc := 153) dL_circles_153  (by decide) rfl ?_
  refine wm_show (L' := [some (mvR 0), some (mvI 2), some (mvI 0), some (mvI 1), some (mvI 1)]) rfl rfl rfl rfl ?_
  refine wm_iload hC  (pc := 155) dL_circles_155 rfl ?_
  refine wm_if_eq hC 189 (pc := 157) dL_circles_157 (by decide) (by omega) (fun h => absurd h (by decide)) (fun _ => ?_)
  refine wm_aload_n hC 0 (pc := 160) dL_circles_160 rfl rfl ?_
  refine wm_iconst hC (pc := 161) dL_circles_161 ?_
  refine wm_iload_n hC 1 (pc := 162) dL_circles_162 rfl rfl ?_
  refine wm_iload_n hC 2 (pc := 163) dL_circles_163 rfl rfl ?_
  refine wm_iload_n hC 2 (pc := 164) dL_circles_164 rfl rfl ?_
  refine wm_iconst hC (pc := 165) dL_circles_165 ?_
  refine wm_icmp_ne hC 174 (pc := 166) dL_circles_166 (by decide) (by omega) (by omega) (fun _ => ?_) (fun h => absurd h (by decide))
  refine wm_iload_n hC 1 (pc := 174) dL_circles_174 rfl rfl ?_
  refine wm_iconst hC (pc := 175) dL_circles_175 ?_
  refine wm_iadd hC (pc := 176) dL_circles_176 ?_
  refine wm_eqI (y := 3) (by decide) ?_
  refine wm_bipush hC (pc := 177) dL_circles_177 (by decide) ?_
  refine wm_irem hC (pc := 179) dL_circles_179 (by omega) (by omega) ?_
  refine wm_eqI (y := 3) (by decide) ?_
  refine wm_iV hC cv_L_32 kc_X8_arrow rfl rfl (t_arrowV hO (by decide)) rfl (by decide) rfl (Nat.le_of_ble_eq_true rfl) (pc := 180) dL_circles_180 (fun z180 w180 hw180 => ?_)
  obtain ⟨e180, hO⟩ := hw180
  replace e180 := e180.trans civ55
  subst e180
  have hO := hO.to civ56
  generalize push Hs (tb ciN27) = Hs at hO
  refine wm_iconst hC (pc := 183) dL_circles_183 ?_
  refine wm_icmp_ge hC 189 (pc := 184) dL_circles_184 (by decide) (by omega) (by omega) (fun _ => ?_) (fun h => absurd h (by decide))
  refine wm_iinc hC (v := 1) (pc := 189) dL_circles_189 rfl (by decide) (by decide) rfl ?_
  refine wm_show (L' := [some (mvR 0), some (mvI 2), some (mvI 1), some (mvI 1), some (mvI 1)]) rfl rfl rfl rfl ?_
  refine wm_goto hC 46 (pc := 192) dL_circles_192 (by decide) ?_
  refine wm_iload_n hC 2 (pc := 46) dL_circles_46 rfl rfl ?_
  refine wm_bipush hC (pc := 47) dL_circles_47 (by decide) ?_
  refine wm_icmp_ge hC 195 (pc := 49) dL_circles_49 (by decide) (by omega) (by omega) (fun h => absurd h (by decide)) (fun _ => ?_)
  refine wm_iload_n hC 1 (pc := 52) dL_circles_52 rfl rfl ?_
  refine wm_bipush hC (pc := 53) dL_circles_53 (by decide) ?_
  refine wm_icmp_ge hC 71 (pc := 55) dL_circles_55 (by decide) (by omega) (by omega) (fun h => absurd h (by decide)) (fun _ => ?_)
  refine wm_iload_n hC 2 (pc := 58) dL_circles_58 rfl rfl ?_
  refine wm_iconst hC (pc := 59) dL_circles_59 ?_
  refine wm_icmp_ge hC 67 (pc := 60) dL_circles_60 (by decide) (by omega) (by omega) (fun h => absurd h (by decide)) (fun _ => ?_)
  refine wm_iconst hC (pc := 63) dL_circles_63 ?_
  refine wm_goto hC 86 (pc := 64) dL_circles_64 (by decide) ?_
  refine wm_istore_n hC 3 (pc := 86) dL_circles_86 rfl (by decide) rfl ?_
  refine wm_show (L' := [some (mvR 0), some (mvI 2), some (mvI 1), some (mvI 1), some (mvI 1)]) rfl rfl rfl rfl ?_
  refine wm_iload_n hC 3 (pc := 87) dL_circles_87 rfl rfl ?_
  refine wm_if_eq hC 120 (pc := 88) dL_circles_88 (by decide) (by omega) (fun h => absurd h (by decide)) (fun _ => ?_)
  refine wm_aload_n hC 0 (pc := 91) dL_circles_91 rfl rfl ?_
  refine wm_iconst hC (pc := 92) dL_circles_92 ?_
  refine wm_iload_n hC 1 (pc := 93) dL_circles_93 rfl rfl ?_
  refine wm_iload_n hC 2 (pc := 94) dL_circles_94 rfl rfl ?_
  refine wm_iload_n hC 2 (pc := 95) dL_circles_95 rfl rfl ?_
  refine wm_iconst hC (pc := 96) dL_circles_96 ?_
  refine wm_icmp_ne hC 105 (pc := 97) dL_circles_97 (by decide) (by omega) (by omega) (fun _ => ?_) (fun h => absurd h (by decide))
  refine wm_iload_n hC 1 (pc := 105) dL_circles_105 rfl rfl ?_
  refine wm_iconst hC (pc := 106) dL_circles_106 ?_
  refine wm_iadd hC (pc := 107) dL_circles_107 ?_
  refine wm_eqI (y := 3) (by decide) ?_
  refine wm_bipush hC (pc := 108) dL_circles_108 (by decide) ?_
  refine wm_irem hC (pc := 110) dL_circles_110 (by omega) (by omega) ?_
  refine wm_eqI (y := 3) (by decide) ?_
  refine wm_iV hC cv_L_32 kc_X8_arrow rfl rfl (t_arrowV hO (by decide)) rfl (by decide) rfl (Nat.le_of_ble_eq_true rfl) (pc := 111) dL_circles_111 (fun z111 w111 hw111 => ?_)
  obtain ⟨e111, hO⟩ := hw111
  replace e111 := e111.trans civ57
  subst e111
  have hO := hO.to civ58
  generalize push Hs (tb ciN28) = Hs at hO
  refine wm_iconst hC (pc := 114) dL_circles_114 ?_
  refine wm_icmp_ge hC 120 (pc := 115) dL_circles_115 (by decide) (by omega) (by omega) (fun _ => ?_) (fun h => absurd h (by decide))
  refine wm_iload_n hC 1 (pc := 120) dL_circles_120 rfl rfl ?_
  refine wm_iconst hC (pc := 121) dL_circles_121 ?_
  refine wm_icmp_ge hC 138 (pc := 122) dL_circles_122 (by decide) (by omega) (by omega) (fun h => absurd h (by decide)) (fun _ => ?_)
  refine wm_iload_n hC 2 (pc := 125) dL_circles_125 rfl rfl ?_
  refine wm_iconst hC (pc := 126) dL_circles_126 ?_
  refine wm_icmp_ge hC 134 (pc := 127) dL_circles_127 (by decide) (by omega) (by omega) (fun h => absurd h (by decide)) (fun _ => ?_)
  refine wm_iconst hC (pc := 130) dL_circles_130 ?_
  refine wm_goto hC 153 (pc := 131) dL_circles_131 (by decide) ?_
  refine wm_istore hC  (pc := 153) dL_circles_153  (by decide) rfl ?_
  refine wm_show (L' := [some (mvR 0), some (mvI 2), some (mvI 1), some (mvI 1), some (mvI 1)]) rfl rfl rfl rfl ?_
  refine wm_iload hC  (pc := 155) dL_circles_155 rfl ?_
  refine wm_if_eq hC 189 (pc := 157) dL_circles_157 (by decide) (by omega) (fun h => absurd h (by decide)) (fun _ => ?_)
  refine wm_aload_n hC 0 (pc := 160) dL_circles_160 rfl rfl ?_
  refine wm_iconst hC (pc := 161) dL_circles_161 ?_
  refine wm_iload_n hC 1 (pc := 162) dL_circles_162 rfl rfl ?_
  refine wm_iload_n hC 2 (pc := 163) dL_circles_163 rfl rfl ?_
  refine wm_iload_n hC 2 (pc := 164) dL_circles_164 rfl rfl ?_
  refine wm_iconst hC (pc := 165) dL_circles_165 ?_
  refine wm_icmp_ne hC 174 (pc := 166) dL_circles_166 (by decide) (by omega) (by omega) (fun _ => ?_) (fun h => absurd h (by decide))
  refine wm_iload_n hC 1 (pc := 174) dL_circles_174 rfl rfl ?_
  refine wm_iconst hC (pc := 175) dL_circles_175 ?_
  refine wm_iadd hC (pc := 176) dL_circles_176 ?_
  refine wm_eqI (y := 3) (by decide) ?_
  refine wm_bipush hC (pc := 177) dL_circles_177 (by decide) ?_
  refine wm_irem hC (pc := 179) dL_circles_179 (by omega) (by omega) ?_
  refine wm_eqI (y := 3) (by decide) ?_
  refine wm_iV hC cv_L_32 kc_X8_arrow rfl rfl (t_arrowV hO (by decide)) rfl (by decide) rfl (Nat.le_of_ble_eq_true rfl) (pc := 180) dL_circles_180 (fun z180 w180 hw180 => ?_)
  obtain ⟨e180, hO⟩ := hw180
  replace e180 := e180.trans civ59
  subst e180
  have hO := hO.to civ60
  generalize push Hs (tb ciN29) = Hs at hO
  refine wm_iconst hC (pc := 183) dL_circles_183 ?_
  refine wm_icmp_ge hC 189 (pc := 184) dL_circles_184 (by decide) (by omega) (by omega) (fun _ => ?_) (fun h => absurd h (by decide))
  refine wm_iinc hC (v := 2) (pc := 189) dL_circles_189 rfl (by decide) (by decide) rfl ?_
  refine wm_show (L' := [some (mvR 0), some (mvI 2), some (mvI 2), some (mvI 1), some (mvI 1)]) rfl rfl rfl rfl ?_
  refine wm_goto hC 46 (pc := 192) dL_circles_192 (by decide) ?_
  refine wm_iload_n hC 2 (pc := 46) dL_circles_46 rfl rfl ?_
  refine wm_bipush hC (pc := 47) dL_circles_47 (by decide) ?_
  refine wm_icmp_ge hC 195 (pc := 49) dL_circles_49 (by decide) (by omega) (by omega) (fun h => absurd h (by decide)) (fun _ => ?_)
  refine wm_iload_n hC 1 (pc := 52) dL_circles_52 rfl rfl ?_
  refine wm_bipush hC (pc := 53) dL_circles_53 (by decide) ?_
  refine wm_icmp_ge hC 71 (pc := 55) dL_circles_55 (by decide) (by omega) (by omega) (fun h => absurd h (by decide)) (fun _ => ?_)
  refine wm_iload_n hC 2 (pc := 58) dL_circles_58 rfl rfl ?_
  refine wm_iconst hC (pc := 59) dL_circles_59 ?_
  refine wm_icmp_ge hC 67 (pc := 60) dL_circles_60 (by decide) (by omega) (by omega) (fun h => absurd h (by decide)) (fun _ => ?_)
  refine wm_iconst hC (pc := 63) dL_circles_63 ?_
  refine wm_goto hC 86 (pc := 64) dL_circles_64 (by decide) ?_
  refine wm_istore_n hC 3 (pc := 86) dL_circles_86 rfl (by decide) rfl ?_
  refine wm_show (L' := [some (mvR 0), some (mvI 2), some (mvI 2), some (mvI 1), some (mvI 1)]) rfl rfl rfl rfl ?_
  refine wm_iload_n hC 3 (pc := 87) dL_circles_87 rfl rfl ?_
  refine wm_if_eq hC 120 (pc := 88) dL_circles_88 (by decide) (by omega) (fun h => absurd h (by decide)) (fun _ => ?_)
  refine wm_aload_n hC 0 (pc := 91) dL_circles_91 rfl rfl ?_
  refine wm_iconst hC (pc := 92) dL_circles_92 ?_
  refine wm_iload_n hC 1 (pc := 93) dL_circles_93 rfl rfl ?_
  refine wm_iload_n hC 2 (pc := 94) dL_circles_94 rfl rfl ?_
  refine wm_iload_n hC 2 (pc := 95) dL_circles_95 rfl rfl ?_
  refine wm_iconst hC (pc := 96) dL_circles_96 ?_
  refine wm_icmp_ne hC 105 (pc := 97) dL_circles_97 (by decide) (by omega) (by omega) (fun _ => ?_) (fun h => absurd h (by decide))
  refine wm_iload_n hC 1 (pc := 105) dL_circles_105 rfl rfl ?_
  refine wm_iconst hC (pc := 106) dL_circles_106 ?_
  refine wm_iadd hC (pc := 107) dL_circles_107 ?_
  refine wm_eqI (y := 3) (by decide) ?_
  refine wm_bipush hC (pc := 108) dL_circles_108 (by decide) ?_
  refine wm_irem hC (pc := 110) dL_circles_110 (by omega) (by omega) ?_
  refine wm_eqI (y := 3) (by decide) ?_
  refine wm_iV hC cv_L_32 kc_X8_arrow rfl rfl (t_arrowV hO (by decide)) rfl (by decide) rfl (Nat.le_of_ble_eq_true rfl) (pc := 111) dL_circles_111 (fun z111 w111 hw111 => ?_)
  obtain ⟨e111, hO⟩ := hw111
  replace e111 := e111.trans civ61
  subst e111
  have hO := hO.to civ62
  generalize push Hs (tb ciN30) = Hs at hO
  refine wm_iconst hC (pc := 114) dL_circles_114 ?_
  refine wm_icmp_ge hC 120 (pc := 115) dL_circles_115 (by decide) (by omega) (by omega) (fun _ => ?_) (fun h => absurd h (by decide))
  refine wm_iload_n hC 1 (pc := 120) dL_circles_120 rfl rfl ?_
  refine wm_iconst hC (pc := 121) dL_circles_121 ?_
  refine wm_icmp_ge hC 138 (pc := 122) dL_circles_122 (by decide) (by omega) (by omega) (fun h => absurd h (by decide)) (fun _ => ?_)
  refine wm_iload_n hC 2 (pc := 125) dL_circles_125 rfl rfl ?_
  refine wm_iconst hC (pc := 126) dL_circles_126 ?_
  refine wm_icmp_ge hC 134 (pc := 127) dL_circles_127 (by decide) (by omega) (by omega) (fun h => absurd h (by decide)) (fun _ => ?_)
  refine wm_iconst hC (pc := 130) dL_circles_130 ?_
  refine wm_goto hC 153 (pc := 131) dL_circles_131 (by decide) ?_
  refine wm_istore hC  (pc := 153) dL_circles_153  (by decide) rfl ?_
  refine wm_show (L' := [some (mvR 0), some (mvI 2), some (mvI 2), some (mvI 1), some (mvI 1)]) rfl rfl rfl rfl ?_
  refine wm_iload hC  (pc := 155) dL_circles_155 rfl ?_
  refine wm_if_eq hC 189 (pc := 157) dL_circles_157 (by decide) (by omega) (fun h => absurd h (by decide)) (fun _ => ?_)
  refine wm_aload_n hC 0 (pc := 160) dL_circles_160 rfl rfl ?_
  refine wm_iconst hC (pc := 161) dL_circles_161 ?_
  refine wm_iload_n hC 1 (pc := 162) dL_circles_162 rfl rfl ?_
  refine wm_iload_n hC 2 (pc := 163) dL_circles_163 rfl rfl ?_
  refine wm_iload_n hC 2 (pc := 164) dL_circles_164 rfl rfl ?_
  refine wm_iconst hC (pc := 165) dL_circles_165 ?_
  refine wm_icmp_ne hC 174 (pc := 166) dL_circles_166 (by decide) (by omega) (by omega) (fun _ => ?_) (fun h => absurd h (by decide))
  refine wm_iload_n hC 1 (pc := 174) dL_circles_174 rfl rfl ?_
  refine wm_iconst hC (pc := 175) dL_circles_175 ?_
  refine wm_iadd hC (pc := 176) dL_circles_176 ?_
  refine wm_eqI (y := 3) (by decide) ?_
  refine wm_bipush hC (pc := 177) dL_circles_177 (by decide) ?_
  refine wm_irem hC (pc := 179) dL_circles_179 (by omega) (by omega) ?_
  refine wm_eqI (y := 3) (by decide) ?_
  refine wm_iV hC cv_L_32 kc_X8_arrow rfl rfl (t_arrowV hO (by decide)) rfl (by decide) rfl (Nat.le_of_ble_eq_true rfl) (pc := 180) dL_circles_180 (fun z180 w180 hw180 => ?_)
  obtain ⟨e180, hO⟩ := hw180
  replace e180 := e180.trans civ63
  subst e180
  have hO := hO.to civ64
  generalize push Hs (tb ciN31) = Hs at hO
  refine wm_iconst hC (pc := 183) dL_circles_183 ?_
  refine wm_icmp_ge hC 189 (pc := 184) dL_circles_184 (by decide) (by omega) (by omega) (fun _ => ?_) (fun h => absurd h (by decide))
  refine wm_iinc hC (v := 3) (pc := 189) dL_circles_189 rfl (by decide) (by decide) rfl ?_
  refine wm_show (L' := [some (mvR 0), some (mvI 2), some (mvI 3), some (mvI 1), some (mvI 1)]) rfl rfl rfl rfl ?_
  refine wm_goto hC 46 (pc := 192) dL_circles_192 (by decide) ?_
  refine wm_iload_n hC 2 (pc := 46) dL_circles_46 rfl rfl ?_
  refine wm_bipush hC (pc := 47) dL_circles_47 (by decide) ?_
  refine wm_icmp_ge hC 195 (pc := 49) dL_circles_49 (by decide) (by omega) (by omega) (fun h => absurd h (by decide)) (fun _ => ?_)
  refine wm_iload_n hC 1 (pc := 52) dL_circles_52 rfl rfl ?_
  refine wm_bipush hC (pc := 53) dL_circles_53 (by decide) ?_
  refine wm_icmp_ge hC 71 (pc := 55) dL_circles_55 (by decide) (by omega) (by omega) (fun h => absurd h (by decide)) (fun _ => ?_)
  refine wm_iload_n hC 2 (pc := 58) dL_circles_58 rfl rfl ?_
  refine wm_iconst hC (pc := 59) dL_circles_59 ?_
  refine wm_icmp_ge hC 67 (pc := 60) dL_circles_60 (by decide) (by omega) (by omega) (fun h => absurd h (by decide)) (fun _ => ?_)
  refine wm_iconst hC (pc := 63) dL_circles_63 ?_
  refine wm_goto hC 86 (pc := 64) dL_circles_64 (by decide) ?_
  refine wm_istore_n hC 3 (pc := 86) dL_circles_86 rfl (by decide) rfl ?_
  refine wm_show (L' := [some (mvR 0), some (mvI 2), some (mvI 3), some (mvI 1), some (mvI 1)]) rfl rfl rfl rfl ?_
  refine wm_iload_n hC 3 (pc := 87) dL_circles_87 rfl rfl ?_
  refine wm_if_eq hC 120 (pc := 88) dL_circles_88 (by decide) (by omega) (fun h => absurd h (by decide)) (fun _ => ?_)
  refine wm_aload_n hC 0 (pc := 91) dL_circles_91 rfl rfl ?_
  refine wm_iconst hC (pc := 92) dL_circles_92 ?_
  refine wm_iload_n hC 1 (pc := 93) dL_circles_93 rfl rfl ?_
  refine wm_iload_n hC 2 (pc := 94) dL_circles_94 rfl rfl ?_
  refine wm_iload_n hC 2 (pc := 95) dL_circles_95 rfl rfl ?_
  refine wm_iconst hC (pc := 96) dL_circles_96 ?_
  refine wm_icmp_ne hC 105 (pc := 97) dL_circles_97 (by decide) (by omega) (by omega) (fun _ => ?_) (fun h => absurd h (by decide))
  refine wm_iload_n hC 1 (pc := 105) dL_circles_105 rfl rfl ?_
  refine wm_iconst hC (pc := 106) dL_circles_106 ?_
  refine wm_iadd hC (pc := 107) dL_circles_107 ?_
  refine wm_eqI (y := 3) (by decide) ?_
  refine wm_bipush hC (pc := 108) dL_circles_108 (by decide) ?_
  refine wm_irem hC (pc := 110) dL_circles_110 (by omega) (by omega) ?_
  refine wm_eqI (y := 3) (by decide) ?_
  refine wm_iV hC cv_L_32 kc_X8_arrow rfl rfl (t_arrowV hO (by decide)) rfl (by decide) rfl (Nat.le_of_ble_eq_true rfl) (pc := 111) dL_circles_111 (fun z111 w111 hw111 => ?_)
  obtain ⟨e111, hO⟩ := hw111
  replace e111 := e111.trans civ65
  subst e111
  have hO := hO.to civ66
  generalize push Hs (tb ciN32) = Hs at hO
  refine wm_iconst hC (pc := 114) dL_circles_114 ?_
  refine wm_icmp_ge hC 120 (pc := 115) dL_circles_115 (by decide) (by omega) (by omega) (fun _ => ?_) (fun h => absurd h (by decide))
  refine wm_iload_n hC 1 (pc := 120) dL_circles_120 rfl rfl ?_
  refine wm_iconst hC (pc := 121) dL_circles_121 ?_
  refine wm_icmp_ge hC 138 (pc := 122) dL_circles_122 (by decide) (by omega) (by omega) (fun h => absurd h (by decide)) (fun _ => ?_)
  refine wm_iload_n hC 2 (pc := 125) dL_circles_125 rfl rfl ?_
  refine wm_iconst hC (pc := 126) dL_circles_126 ?_
  refine wm_icmp_ge hC 134 (pc := 127) dL_circles_127 (by decide) (by omega) (by omega) (fun h => absurd h (by decide)) (fun _ => ?_)
  refine wm_iconst hC (pc := 130) dL_circles_130 ?_
  refine wm_goto hC 153 (pc := 131) dL_circles_131 (by decide) ?_
  refine wm_istore hC  (pc := 153) dL_circles_153  (by decide) rfl ?_
  refine wm_show (L' := [some (mvR 0), some (mvI 2), some (mvI 3), some (mvI 1), some (mvI 1)]) rfl rfl rfl rfl ?_
  refine wm_iload hC  (pc := 155) dL_circles_155 rfl ?_
  refine wm_if_eq hC 189 (pc := 157) dL_circles_157 (by decide) (by omega) (fun h => absurd h (by decide)) (fun _ => ?_)
  refine wm_aload_n hC 0 (pc := 160) dL_circles_160 rfl rfl ?_
  refine wm_iconst hC (pc := 161) dL_circles_161 ?_
  refine wm_iload_n hC 1 (pc := 162) dL_circles_162 rfl rfl ?_
  refine wm_iload_n hC 2 (pc := 163) dL_circles_163 rfl rfl ?_
  refine wm_iload_n hC 2 (pc := 164) dL_circles_164 rfl rfl ?_
  refine wm_iconst hC (pc := 165) dL_circles_165 ?_
  refine wm_icmp_ne hC 174 (pc := 166) dL_circles_166 (by decide) (by omega) (by omega) (fun _ => ?_) (fun h => absurd h (by decide))
  refine wm_iload_n hC 1 (pc := 174) dL_circles_174 rfl rfl ?_
  refine wm_iconst hC (pc := 175) dL_circles_175 ?_
  refine wm_iadd hC (pc := 176) dL_circles_176 ?_
  refine wm_eqI (y := 3) (by decide) ?_
  refine wm_bipush hC (pc := 177) dL_circles_177 (by decide) ?_
  refine wm_irem hC (pc := 179) dL_circles_179 (by omega) (by omega) ?_
  refine wm_eqI (y := 3) (by decide) ?_
  refine wm_iV hC cv_L_32 kc_X8_arrow rfl rfl (t_arrowV hO (by decide)) rfl (by decide) rfl (Nat.le_of_ble_eq_true rfl) (pc := 180) dL_circles_180 (fun z180 w180 hw180 => ?_)
  obtain ⟨e180, hO⟩ := hw180
  replace e180 := e180.trans civ67
  subst e180
  have hO := hO.to civ68
  generalize push Hs (tb ciN33) = Hs at hO
  refine wm_iconst hC (pc := 183) dL_circles_183 ?_
  refine wm_icmp_ge hC 189 (pc := 184) dL_circles_184 (by decide) (by omega) (by omega) (fun _ => ?_) (fun h => absurd h (by decide))
  refine wm_iinc hC (v := 4) (pc := 189) dL_circles_189 rfl (by decide) (by decide) rfl ?_
  refine wm_show (L' := [some (mvR 0), some (mvI 2), some (mvI 4), some (mvI 1), some (mvI 1)]) rfl rfl rfl rfl ?_
  refine wm_goto hC 46 (pc := 192) dL_circles_192 (by decide) ?_
  refine wm_iload_n hC 2 (pc := 46) dL_circles_46 rfl rfl ?_
  refine wm_bipush hC (pc := 47) dL_circles_47 (by decide) ?_
  refine wm_icmp_ge hC 195 (pc := 49) dL_circles_49 (by decide) (by omega) (by omega) (fun h => absurd h (by decide)) (fun _ => ?_)
  refine wm_iload_n hC 1 (pc := 52) dL_circles_52 rfl rfl ?_
  refine wm_bipush hC (pc := 53) dL_circles_53 (by decide) ?_
  refine wm_icmp_ge hC 71 (pc := 55) dL_circles_55 (by decide) (by omega) (by omega) (fun h => absurd h (by decide)) (fun _ => ?_)
  refine wm_iload_n hC 2 (pc := 58) dL_circles_58 rfl rfl ?_
  refine wm_iconst hC (pc := 59) dL_circles_59 ?_
  refine wm_icmp_ge hC 67 (pc := 60) dL_circles_60 (by decide) (by omega) (by omega) (fun h => absurd h (by decide)) (fun _ => ?_)
  refine wm_iconst hC (pc := 63) dL_circles_63 ?_
  refine wm_goto hC 86 (pc := 64) dL_circles_64 (by decide) ?_
  refine wm_istore_n hC 3 (pc := 86) dL_circles_86 rfl (by decide) rfl ?_
  refine wm_show (L' := [some (mvR 0), some (mvI 2), some (mvI 4), some (mvI 1), some (mvI 1)]) rfl rfl rfl rfl ?_
  refine wm_iload_n hC 3 (pc := 87) dL_circles_87 rfl rfl ?_
  refine wm_if_eq hC 120 (pc := 88) dL_circles_88 (by decide) (by omega) (fun h => absurd h (by decide)) (fun _ => ?_)
  refine wm_aload_n hC 0 (pc := 91) dL_circles_91 rfl rfl ?_
  refine wm_iconst hC (pc := 92) dL_circles_92 ?_
  refine wm_iload_n hC 1 (pc := 93) dL_circles_93 rfl rfl ?_
  refine wm_iload_n hC 2 (pc := 94) dL_circles_94 rfl rfl ?_
  refine wm_iload_n hC 2 (pc := 95) dL_circles_95 rfl rfl ?_
  refine wm_iconst hC (pc := 96) dL_circles_96 ?_
  refine wm_icmp_ne hC 105 (pc := 97) dL_circles_97 (by decide) (by omega) (by omega) (fun _ => ?_) (fun h => absurd h (by decide))
  refine wm_iload_n hC 1 (pc := 105) dL_circles_105 rfl rfl ?_
  refine wm_iconst hC (pc := 106) dL_circles_106 ?_
  refine wm_iadd hC (pc := 107) dL_circles_107 ?_
  refine wm_eqI (y := 3) (by decide) ?_
  refine wm_bipush hC (pc := 108) dL_circles_108 (by decide) ?_
  refine wm_irem hC (pc := 110) dL_circles_110 (by omega) (by omega) ?_
  refine wm_eqI (y := 3) (by decide) ?_
  refine wm_iV hC cv_L_32 kc_X8_arrow rfl rfl (t_arrowV hO (by decide)) rfl (by decide) rfl (Nat.le_of_ble_eq_true rfl) (pc := 111) dL_circles_111 (fun z111 w111 hw111 => ?_)
  obtain ⟨e111, hO⟩ := hw111
  replace e111 := e111.trans civ69
  subst e111
  have hO := hO.to civ70
  generalize push Hs (tb ciN34) = Hs at hO
  refine wm_iconst hC (pc := 114) dL_circles_114 ?_
  refine wm_icmp_ge hC 120 (pc := 115) dL_circles_115 (by decide) (by omega) (by omega) (fun _ => ?_) (fun h => absurd h (by decide))
  refine wm_iload_n hC 1 (pc := 120) dL_circles_120 rfl rfl ?_
  refine wm_iconst hC (pc := 121) dL_circles_121 ?_
  refine wm_icmp_ge hC 138 (pc := 122) dL_circles_122 (by decide) (by omega) (by omega) (fun h => absurd h (by decide)) (fun _ => ?_)
  refine wm_iload_n hC 2 (pc := 125) dL_circles_125 rfl rfl ?_
  refine wm_iconst hC (pc := 126) dL_circles_126 ?_
  refine wm_icmp_ge hC 134 (pc := 127) dL_circles_127 (by decide) (by omega) (by omega) (fun h => absurd h (by decide)) (fun _ => ?_)
  refine wm_iconst hC (pc := 130) dL_circles_130 ?_
  refine wm_goto hC 153 (pc := 131) dL_circles_131 (by decide) ?_
  refine wm_istore hC  (pc := 153) dL_circles_153  (by decide) rfl ?_
  refine wm_show (L' := [some (mvR 0), some (mvI 2), some (mvI 4), some (mvI 1), some (mvI 1)]) rfl rfl rfl rfl ?_
  refine wm_iload hC  (pc := 155) dL_circles_155 rfl ?_
  refine wm_if_eq hC 189 (pc := 157) dL_circles_157 (by decide) (by omega) (fun h => absurd h (by decide)) (fun _ => ?_)
  refine wm_aload_n hC 0 (pc := 160) dL_circles_160 rfl rfl ?_
  refine wm_iconst hC (pc := 161) dL_circles_161 ?_
  refine wm_iload_n hC 1 (pc := 162) dL_circles_162 rfl rfl ?_
  refine wm_iload_n hC 2 (pc := 163) dL_circles_163 rfl rfl ?_
  refine wm_iload_n hC 2 (pc := 164) dL_circles_164 rfl rfl ?_
  refine wm_iconst hC (pc := 165) dL_circles_165 ?_
  refine wm_icmp_ne hC 174 (pc := 166) dL_circles_166 (by decide) (by omega) (by omega) (fun _ => ?_) (fun h => absurd h (by decide))
  refine wm_iload_n hC 1 (pc := 174) dL_circles_174 rfl rfl ?_
  refine wm_iconst hC (pc := 175) dL_circles_175 ?_
  refine wm_iadd hC (pc := 176) dL_circles_176 ?_
  refine wm_eqI (y := 3) (by decide) ?_
  refine wm_bipush hC (pc := 177) dL_circles_177 (by decide) ?_
  refine wm_irem hC (pc := 179) dL_circles_179 (by omega) (by omega) ?_
  refine wm_eqI (y := 3) (by decide) ?_
  refine wm_iV hC cv_L_32 kc_X8_arrow rfl rfl (t_arrowV hO (by decide)) rfl (by decide) rfl (Nat.le_of_ble_eq_true rfl) (pc := 180) dL_circles_180 (fun z180 w180 hw180 => ?_)
  obtain ⟨e180, hO⟩ := hw180
  replace e180 := e180.trans civ71
  subst e180
  have hO := hO.to civ72
  generalize push Hs (tb ciN35) = Hs at hO
  refine wm_iconst hC (pc := 183) dL_circles_183 ?_
  refine wm_icmp_ge hC 189 (pc := 184) dL_circles_184 (by decide) (by omega) (by omega) (fun _ => ?_) (fun h => absurd h (by decide))
  refine wm_iinc hC (v := 5) (pc := 189) dL_circles_189 rfl (by decide) (by decide) rfl ?_
  refine wm_show (L' := [some (mvR 0), some (mvI 2), some (mvI 5), some (mvI 1), some (mvI 1)]) rfl rfl rfl rfl ?_
  refine wm_goto hC 46 (pc := 192) dL_circles_192 (by decide) ?_
  refine wm_iload_n hC 2 (pc := 46) dL_circles_46 rfl rfl ?_
  refine wm_bipush hC (pc := 47) dL_circles_47 (by decide) ?_
  refine wm_icmp_ge hC 195 (pc := 49) dL_circles_49 (by decide) (by omega) (by omega) (fun h => absurd h (by decide)) (fun _ => ?_)
  refine wm_iload_n hC 1 (pc := 52) dL_circles_52 rfl rfl ?_
  refine wm_bipush hC (pc := 53) dL_circles_53 (by decide) ?_
  refine wm_icmp_ge hC 71 (pc := 55) dL_circles_55 (by decide) (by omega) (by omega) (fun h => absurd h (by decide)) (fun _ => ?_)
  refine wm_iload_n hC 2 (pc := 58) dL_circles_58 rfl rfl ?_
  refine wm_iconst hC (pc := 59) dL_circles_59 ?_
  refine wm_icmp_ge hC 67 (pc := 60) dL_circles_60 (by decide) (by omega) (by omega) (fun _ => ?_) (fun h => absurd h (by decide))
  refine wm_iconst hC (pc := 67) dL_circles_67 ?_
  refine wm_goto hC 86 (pc := 68) dL_circles_68 (by decide) ?_
  refine wm_istore_n hC 3 (pc := 86) dL_circles_86 rfl (by decide) rfl ?_
  refine wm_show (L' := [some (mvR 0), some (mvI 2), some (mvI 5), some (mvI 0), some (mvI 1)]) rfl rfl rfl rfl ?_
  refine wm_iload_n hC 3 (pc := 87) dL_circles_87 rfl rfl ?_
  refine wm_if_eq hC 120 (pc := 88) dL_circles_88 (by decide) (by omega) (fun _ => ?_) (fun h => absurd h (by decide))
  refine wm_iload_n hC 1 (pc := 120) dL_circles_120 rfl rfl ?_
  refine wm_iconst hC (pc := 121) dL_circles_121 ?_
  refine wm_icmp_ge hC 138 (pc := 122) dL_circles_122 (by decide) (by omega) (by omega) (fun h => absurd h (by decide)) (fun _ => ?_)
  refine wm_iload_n hC 2 (pc := 125) dL_circles_125 rfl rfl ?_
  refine wm_iconst hC (pc := 126) dL_circles_126 ?_
  refine wm_icmp_ge hC 134 (pc := 127) dL_circles_127 (by decide) (by omega) (by omega) (fun _ => ?_) (fun h => absurd h (by decide))
  refine wm_iconst hC (pc := 134) dL_circles_134 ?_
  refine wm_goto hC 153 (pc := 135) dL_circles_135 (by decide) ?_
  refine wm_istore hC  (pc := 153) dL_circles_153  (by decide) rfl ?_
  refine wm_show (L' := [some (mvR 0), some (mvI 2), some (mvI 5), some (mvI 0), some (mvI 0)]) rfl rfl rfl rfl ?_
  refine wm_iload hC  (pc := 155) dL_circles_155 rfl ?_
  refine wm_if_eq hC 189 (pc := 157) dL_circles_157 (by decide) (by omega) (fun _ => ?_) (fun h => absurd h (by decide))
  refine wm_iinc hC (v := 6) (pc := 189) dL_circles_189 rfl (by decide) (by decide) rfl ?_
  refine wm_show (L' := [some (mvR 0), some (mvI 2), some (mvI 6), some (mvI 0), some (mvI 0)]) rfl rfl rfl rfl ?_
  refine wm_goto hC 46 (pc := 192) dL_circles_192 (by decide) ?_
  refine wm_iload_n hC 2 (pc := 46) dL_circles_46 rfl rfl ?_
  refine wm_bipush hC (pc := 47) dL_circles_47 (by decide) ?_
  refine wm_icmp_ge hC 195 (pc := 49) dL_circles_49 (by decide) (by omega) (by omega) (fun _ => ?_) (fun h => absurd h (by decide))
  refine wm_iinc hC (v := 3) (pc := 195) dL_circles_195 rfl (by decide) (by decide) rfl ?_
  refine wm_show (L' := [some (mvR 0), some (mvI 3), some (mvI 6), some (mvI 0), some (mvI 0)]) rfl rfl rfl rfl ?_
  refine wm_goto hC 10 (pc := 198) dL_circles_198 (by decide) ?_
  exact ciS3 hC hO none _ _ _
set_option maxRecDepth 100000 in
set_option maxHeartbeats 4000000 in
theorem ciS1 {l : Launch} {G : mG} {K : mK} {w : mW} {Hs : List Pn} (hC : mC G K 5 RL cL_circles (some .boolean)) (hO : Ob w (tb ciN12) Hs [] (fun _ => 0)) (x1 x2 x3 x4 : Option mV) : Wm l G K 9 5 (qI (fun z _ => z = 1)) 10 [some (mvR 0), some (mvI 1), x2, x3, x4] [] w := by
  refine wm_iload_n hC 1 (pc := 10) dL_circles_10 rfl rfl ?_
  refine wm_bipush hC (pc := 11) dL_circles_11 (by decide) ?_
  refine wm_icmp_ge hC 201 (pc := 13) dL_circles_13 (by decide) (by omega) (by omega) (fun h => absurd h (by decide)) (fun _ => ?_)
  refine wm_aload_n hC 0 (pc := 16) dL_circles_16 rfl rfl ?_
  refine wm_iconst hC (pc := 17) dL_circles_17 ?_
  refine wm_iload_n hC 1 (pc := 18) dL_circles_18 rfl rfl ?_
  refine wm_iconst hC (pc := 19) dL_circles_19 ?_
  refine wm_iV hC cv_L_26 kc_X8_kind rfl rfl (t_kindV hO (by decide)) rfl (by decide) rfl (Nat.le_of_ble_eq_true rfl) (pc := 20) dL_circles_20 (fun z20 w20 hw20 => ?_)
  obtain ⟨e20, hO⟩ := hw20
  replace e20 := e20.trans civ25
  subst e20
  have hO := hO.to civ26
  generalize push Hs (tb ciN12) = Hs at hO
  refine wm_if_ne hC 42 (pc := 23) dL_circles_23 (by decide) (by omega) (fun h => absurd h (by decide)) (fun _ => ?_)
  refine wm_iload_n hC 1 (pc := 26) dL_circles_26 rfl rfl ?_
  refine wm_bipush hC (pc := 27) dL_circles_27 (by decide) ?_
  refine wm_icmp_ge hC 44 (pc := 29) dL_circles_29 (by decide) (by omega) (by omega) (fun h => absurd h (by decide)) (fun _ => ?_)
  refine wm_aload_n hC 0 (pc := 32) dL_circles_32 rfl rfl ?_
  refine wm_iconst hC (pc := 33) dL_circles_33 ?_
  refine wm_iload_n hC 1 (pc := 34) dL_circles_34 rfl rfl ?_
  refine wm_iconst hC (pc := 35) dL_circles_35 ?_
  refine wm_iV hC cv_L_26 kc_X8_kind rfl rfl (t_kindV hO (by decide)) rfl (by decide) rfl (Nat.le_of_ble_eq_true rfl) (pc := 36) dL_circles_36 (fun z36 w36 hw36 => ?_)
  obtain ⟨e36, hO⟩ := hw36
  replace e36 := e36.trans civ27
  subst e36
  have hO := hO.to civ28
  generalize push Hs (tb ciN13) = Hs at hO
  refine wm_if_eq hC 44 (pc := 39) dL_circles_39 (by decide) (by omega) (fun _ => ?_) (fun h => absurd h (by decide))
  refine wm_iconst hC (pc := 44) dL_circles_44 ?_
  refine wm_istore_n hC 2 (pc := 45) dL_circles_45 rfl (by decide) rfl ?_
  refine wm_show (L' := [some (mvR 0), some (mvI 1), some (mvI 0), x3, x4]) rfl rfl rfl rfl ?_
  refine wm_iload_n hC 2 (pc := 46) dL_circles_46 rfl rfl ?_
  refine wm_bipush hC (pc := 47) dL_circles_47 (by decide) ?_
  refine wm_icmp_ge hC 195 (pc := 49) dL_circles_49 (by decide) (by omega) (by omega) (fun h => absurd h (by decide)) (fun _ => ?_)
  refine wm_iload_n hC 1 (pc := 52) dL_circles_52 rfl rfl ?_
  refine wm_bipush hC (pc := 53) dL_circles_53 (by decide) ?_
  refine wm_icmp_ge hC 71 (pc := 55) dL_circles_55 (by decide) (by omega) (by omega) (fun h => absurd h (by decide)) (fun _ => ?_)
  refine wm_iload_n hC 2 (pc := 58) dL_circles_58 rfl rfl ?_
  refine wm_iconst hC (pc := 59) dL_circles_59 ?_
  refine wm_icmp_ge hC 67 (pc := 60) dL_circles_60 (by decide) (by omega) (by omega) (fun h => absurd h (by decide)) (fun _ => ?_)
  refine wm_iconst hC (pc := 63) dL_circles_63 ?_
  refine wm_goto hC 86 (pc := 64) dL_circles_64 (by decide) ?_
  refine wm_istore_n hC 3 (pc := 86) dL_circles_86 rfl (by decide) rfl ?_
  refine wm_show (L' := [some (mvR 0), some (mvI 1), some (mvI 0), some (mvI 1), x4]) rfl rfl rfl rfl ?_
  refine wm_iload_n hC 3 (pc := 87) dL_circles_87 rfl rfl ?_
  refine wm_if_eq hC 120 (pc := 88) dL_circles_88 (by decide) (by omega) (fun h => absurd h (by decide)) (fun _ => ?_)
  refine wm_aload_n hC 0 (pc := 91) dL_circles_91 rfl rfl ?_
  refine wm_iconst hC (pc := 92) dL_circles_92 ?_
  refine wm_iload_n hC 1 (pc := 93) dL_circles_93 rfl rfl ?_
  refine wm_iload_n hC 2 (pc := 94) dL_circles_94 rfl rfl ?_
  refine wm_iload_n hC 2 (pc := 95) dL_circles_95 rfl rfl ?_
  refine wm_iconst hC (pc := 96) dL_circles_96 ?_
  refine wm_icmp_ne hC 105 (pc := 97) dL_circles_97 (by decide) (by omega) (by omega) (fun _ => ?_) (fun h => absurd h (by decide))
  refine wm_iload_n hC 1 (pc := 105) dL_circles_105 rfl rfl ?_
  refine wm_iconst hC (pc := 106) dL_circles_106 ?_
  refine wm_iadd hC (pc := 107) dL_circles_107 ?_
  refine wm_eqI (y := 2) (by decide) ?_
  refine wm_bipush hC (pc := 108) dL_circles_108 (by decide) ?_
  refine wm_irem hC (pc := 110) dL_circles_110 (by omega) (by omega) ?_
  refine wm_eqI (y := 2) (by decide) ?_
  refine wm_iV hC cv_L_32 kc_X8_arrow rfl rfl (t_arrowV hO (by decide)) rfl (by decide) rfl (Nat.le_of_ble_eq_true rfl) (pc := 111) dL_circles_111 (fun z111 w111 hw111 => ?_)
  obtain ⟨e111, hO⟩ := hw111
  replace e111 := e111.trans civ29
  subst e111
  have hO := hO.to civ30
  generalize push Hs (tb ciN14) = Hs at hO
  refine wm_iconst hC (pc := 114) dL_circles_114 ?_
  refine wm_icmp_ge hC 120 (pc := 115) dL_circles_115 (by decide) (by omega) (by omega) (fun _ => ?_) (fun h => absurd h (by decide))
  refine wm_iload_n hC 1 (pc := 120) dL_circles_120 rfl rfl ?_
  refine wm_iconst hC (pc := 121) dL_circles_121 ?_
  refine wm_icmp_ge hC 138 (pc := 122) dL_circles_122 (by decide) (by omega) (by omega) (fun h => absurd h (by decide)) (fun _ => ?_)
  refine wm_iload_n hC 2 (pc := 125) dL_circles_125 rfl rfl ?_
  refine wm_iconst hC (pc := 126) dL_circles_126 ?_
  refine wm_icmp_ge hC 134 (pc := 127) dL_circles_127 (by decide) (by omega) (by omega) (fun h => absurd h (by decide)) (fun _ => ?_)
  refine wm_iconst hC (pc := 130) dL_circles_130 ?_
  refine wm_goto hC 153 (pc := 131) dL_circles_131 (by decide) ?_
  refine wm_istore hC  (pc := 153) dL_circles_153  (by decide) rfl ?_
  refine wm_show (L' := [some (mvR 0), some (mvI 1), some (mvI 0), some (mvI 1), some (mvI 1)]) rfl rfl rfl rfl ?_
  refine wm_iload hC  (pc := 155) dL_circles_155 rfl ?_
  refine wm_if_eq hC 189 (pc := 157) dL_circles_157 (by decide) (by omega) (fun h => absurd h (by decide)) (fun _ => ?_)
  refine wm_aload_n hC 0 (pc := 160) dL_circles_160 rfl rfl ?_
  refine wm_iconst hC (pc := 161) dL_circles_161 ?_
  refine wm_iload_n hC 1 (pc := 162) dL_circles_162 rfl rfl ?_
  refine wm_iload_n hC 2 (pc := 163) dL_circles_163 rfl rfl ?_
  refine wm_iload_n hC 2 (pc := 164) dL_circles_164 rfl rfl ?_
  refine wm_iconst hC (pc := 165) dL_circles_165 ?_
  refine wm_icmp_ne hC 174 (pc := 166) dL_circles_166 (by decide) (by omega) (by omega) (fun _ => ?_) (fun h => absurd h (by decide))
  refine wm_iload_n hC 1 (pc := 174) dL_circles_174 rfl rfl ?_
  refine wm_iconst hC (pc := 175) dL_circles_175 ?_
  refine wm_iadd hC (pc := 176) dL_circles_176 ?_
  refine wm_eqI (y := 2) (by decide) ?_
  refine wm_bipush hC (pc := 177) dL_circles_177 (by decide) ?_
  refine wm_irem hC (pc := 179) dL_circles_179 (by omega) (by omega) ?_
  refine wm_eqI (y := 2) (by decide) ?_
  refine wm_iV hC cv_L_32 kc_X8_arrow rfl rfl (t_arrowV hO (by decide)) rfl (by decide) rfl (Nat.le_of_ble_eq_true rfl) (pc := 180) dL_circles_180 (fun z180 w180 hw180 => ?_)
  obtain ⟨e180, hO⟩ := hw180
  replace e180 := e180.trans civ31
  subst e180
  have hO := hO.to civ32
  generalize push Hs (tb ciN15) = Hs at hO
  refine wm_iconst hC (pc := 183) dL_circles_183 ?_
  refine wm_icmp_ge hC 189 (pc := 184) dL_circles_184 (by decide) (by omega) (by omega) (fun _ => ?_) (fun h => absurd h (by decide))
  refine wm_iinc hC (v := 1) (pc := 189) dL_circles_189 rfl (by decide) (by decide) rfl ?_
  refine wm_show (L' := [some (mvR 0), some (mvI 1), some (mvI 1), some (mvI 1), some (mvI 1)]) rfl rfl rfl rfl ?_
  refine wm_goto hC 46 (pc := 192) dL_circles_192 (by decide) ?_
  refine wm_iload_n hC 2 (pc := 46) dL_circles_46 rfl rfl ?_
  refine wm_bipush hC (pc := 47) dL_circles_47 (by decide) ?_
  refine wm_icmp_ge hC 195 (pc := 49) dL_circles_49 (by decide) (by omega) (by omega) (fun h => absurd h (by decide)) (fun _ => ?_)
  refine wm_iload_n hC 1 (pc := 52) dL_circles_52 rfl rfl ?_
  refine wm_bipush hC (pc := 53) dL_circles_53 (by decide) ?_
  refine wm_icmp_ge hC 71 (pc := 55) dL_circles_55 (by decide) (by omega) (by omega) (fun h => absurd h (by decide)) (fun _ => ?_)
  refine wm_iload_n hC 2 (pc := 58) dL_circles_58 rfl rfl ?_
  refine wm_iconst hC (pc := 59) dL_circles_59 ?_
  refine wm_icmp_ge hC 67 (pc := 60) dL_circles_60 (by decide) (by omega) (by omega) (fun h => absurd h (by decide)) (fun _ => ?_)
  refine wm_iconst hC (pc := 63) dL_circles_63 ?_
  refine wm_goto hC 86 (pc := 64) dL_circles_64 (by decide) ?_
  refine wm_istore_n hC 3 (pc := 86) dL_circles_86 rfl (by decide) rfl ?_
  refine wm_show (L' := [some (mvR 0), some (mvI 1), some (mvI 1), some (mvI 1), some (mvI 1)]) rfl rfl rfl rfl ?_
  refine wm_iload_n hC 3 (pc := 87) dL_circles_87 rfl rfl ?_
  refine wm_if_eq hC 120 (pc := 88) dL_circles_88 (by decide) (by omega) (fun h => absurd h (by decide)) (fun _ => ?_)
  refine wm_aload_n hC 0 (pc := 91) dL_circles_91 rfl rfl ?_
  refine wm_iconst hC (pc := 92) dL_circles_92 ?_
  refine wm_iload_n hC 1 (pc := 93) dL_circles_93 rfl rfl ?_
  refine wm_iload_n hC 2 (pc := 94) dL_circles_94 rfl rfl ?_
  refine wm_iload_n hC 2 (pc := 95) dL_circles_95 rfl rfl ?_
  refine wm_iconst hC (pc := 96) dL_circles_96 ?_
  refine wm_icmp_ne hC 105 (pc := 97) dL_circles_97 (by decide) (by omega) (by omega) (fun _ => ?_) (fun h => absurd h (by decide))
  refine wm_iload_n hC 1 (pc := 105) dL_circles_105 rfl rfl ?_
  refine wm_iconst hC (pc := 106) dL_circles_106 ?_
  refine wm_iadd hC (pc := 107) dL_circles_107 ?_
  refine wm_eqI (y := 2) (by decide) ?_
  refine wm_bipush hC (pc := 108) dL_circles_108 (by decide) ?_
  refine wm_irem hC (pc := 110) dL_circles_110 (by omega) (by omega) ?_
  refine wm_eqI (y := 2) (by decide) ?_
  refine wm_iV hC cv_L_32 kc_X8_arrow rfl rfl (t_arrowV hO (by decide)) rfl (by decide) rfl (Nat.le_of_ble_eq_true rfl) (pc := 111) dL_circles_111 (fun z111 w111 hw111 => ?_)
  obtain ⟨e111, hO⟩ := hw111
  replace e111 := e111.trans civ33
  subst e111
  have hO := hO.to civ34
  generalize push Hs (tb ciN16) = Hs at hO
  refine wm_iconst hC (pc := 114) dL_circles_114 ?_
  refine wm_icmp_ge hC 120 (pc := 115) dL_circles_115 (by decide) (by omega) (by omega) (fun _ => ?_) (fun h => absurd h (by decide))
  refine wm_iload_n hC 1 (pc := 120) dL_circles_120 rfl rfl ?_
  refine wm_iconst hC (pc := 121) dL_circles_121 ?_
  refine wm_icmp_ge hC 138 (pc := 122) dL_circles_122 (by decide) (by omega) (by omega) (fun h => absurd h (by decide)) (fun _ => ?_)
  refine wm_iload_n hC 2 (pc := 125) dL_circles_125 rfl rfl ?_
  refine wm_iconst hC (pc := 126) dL_circles_126 ?_
  refine wm_icmp_ge hC 134 (pc := 127) dL_circles_127 (by decide) (by omega) (by omega) (fun h => absurd h (by decide)) (fun _ => ?_)
  refine wm_iconst hC (pc := 130) dL_circles_130 ?_
  refine wm_goto hC 153 (pc := 131) dL_circles_131 (by decide) ?_
  refine wm_istore hC  (pc := 153) dL_circles_153  (by decide) rfl ?_
  refine wm_show (L' := [some (mvR 0), some (mvI 1), some (mvI 1), some (mvI 1), some (mvI 1)]) rfl rfl rfl rfl ?_
  refine wm_iload hC  (pc := 155) dL_circles_155 rfl ?_
  refine wm_if_eq hC 189 (pc := 157) dL_circles_157 (by decide) (by omega) (fun h => absurd h (by decide)) (fun _ => ?_)
  refine wm_aload_n hC 0 (pc := 160) dL_circles_160 rfl rfl ?_
  refine wm_iconst hC (pc := 161) dL_circles_161 ?_
  refine wm_iload_n hC 1 (pc := 162) dL_circles_162 rfl rfl ?_
  refine wm_iload_n hC 2 (pc := 163) dL_circles_163 rfl rfl ?_
  refine wm_iload_n hC 2 (pc := 164) dL_circles_164 rfl rfl ?_
  refine wm_iconst hC (pc := 165) dL_circles_165 ?_
  refine wm_icmp_ne hC 174 (pc := 166) dL_circles_166 (by decide) (by omega) (by omega) (fun _ => ?_) (fun h => absurd h (by decide))
  refine wm_iload_n hC 1 (pc := 174) dL_circles_174 rfl rfl ?_
  refine wm_iconst hC (pc := 175) dL_circles_175 ?_
  refine wm_iadd hC (pc := 176) dL_circles_176 ?_
  refine wm_eqI (y := 2) (by decide) ?_
  refine wm_bipush hC (pc := 177) dL_circles_177 (by decide) ?_
  refine wm_irem hC (pc := 179) dL_circles_179 (by omega) (by omega) ?_
  refine wm_eqI (y := 2) (by decide) ?_
  refine wm_iV hC cv_L_32 kc_X8_arrow rfl rfl (t_arrowV hO (by decide)) rfl (by decide) rfl (Nat.le_of_ble_eq_true rfl) (pc := 180) dL_circles_180 (fun z180 w180 hw180 => ?_)
  obtain ⟨e180, hO⟩ := hw180
  replace e180 := e180.trans civ35
  subst e180
  have hO := hO.to civ36
  generalize push Hs (tb ciN17) = Hs at hO
  refine wm_iconst hC (pc := 183) dL_circles_183 ?_
  refine wm_icmp_ge hC 189 (pc := 184) dL_circles_184 (by decide) (by omega) (by omega) (fun _ => ?_) (fun h => absurd h (by decide))
  refine wm_iinc hC (v := 2) (pc := 189) dL_circles_189 rfl (by decide) (by decide) rfl ?_
  refine wm_show (L' := [some (mvR 0), some (mvI 1), some (mvI 2), some (mvI 1), some (mvI 1)]) rfl rfl rfl rfl ?_
  refine wm_goto hC 46 (pc := 192) dL_circles_192 (by decide) ?_
  refine wm_iload_n hC 2 (pc := 46) dL_circles_46 rfl rfl ?_
  refine wm_bipush hC (pc := 47) dL_circles_47 (by decide) ?_
  refine wm_icmp_ge hC 195 (pc := 49) dL_circles_49 (by decide) (by omega) (by omega) (fun h => absurd h (by decide)) (fun _ => ?_)
  refine wm_iload_n hC 1 (pc := 52) dL_circles_52 rfl rfl ?_
  refine wm_bipush hC (pc := 53) dL_circles_53 (by decide) ?_
  refine wm_icmp_ge hC 71 (pc := 55) dL_circles_55 (by decide) (by omega) (by omega) (fun h => absurd h (by decide)) (fun _ => ?_)
  refine wm_iload_n hC 2 (pc := 58) dL_circles_58 rfl rfl ?_
  refine wm_iconst hC (pc := 59) dL_circles_59 ?_
  refine wm_icmp_ge hC 67 (pc := 60) dL_circles_60 (by decide) (by omega) (by omega) (fun h => absurd h (by decide)) (fun _ => ?_)
  refine wm_iconst hC (pc := 63) dL_circles_63 ?_
  refine wm_goto hC 86 (pc := 64) dL_circles_64 (by decide) ?_
  refine wm_istore_n hC 3 (pc := 86) dL_circles_86 rfl (by decide) rfl ?_
  refine wm_show (L' := [some (mvR 0), some (mvI 1), some (mvI 2), some (mvI 1), some (mvI 1)]) rfl rfl rfl rfl ?_
  refine wm_iload_n hC 3 (pc := 87) dL_circles_87 rfl rfl ?_
  refine wm_if_eq hC 120 (pc := 88) dL_circles_88 (by decide) (by omega) (fun h => absurd h (by decide)) (fun _ => ?_)
  refine wm_aload_n hC 0 (pc := 91) dL_circles_91 rfl rfl ?_
  refine wm_iconst hC (pc := 92) dL_circles_92 ?_
  refine wm_iload_n hC 1 (pc := 93) dL_circles_93 rfl rfl ?_
  refine wm_iload_n hC 2 (pc := 94) dL_circles_94 rfl rfl ?_
  refine wm_iload_n hC 2 (pc := 95) dL_circles_95 rfl rfl ?_
  refine wm_iconst hC (pc := 96) dL_circles_96 ?_
  refine wm_icmp_ne hC 105 (pc := 97) dL_circles_97 (by decide) (by omega) (by omega) (fun _ => ?_) (fun h => absurd h (by decide))
  refine wm_iload_n hC 1 (pc := 105) dL_circles_105 rfl rfl ?_
  refine wm_iconst hC (pc := 106) dL_circles_106 ?_
  refine wm_iadd hC (pc := 107) dL_circles_107 ?_
  refine wm_eqI (y := 2) (by decide) ?_
  refine wm_bipush hC (pc := 108) dL_circles_108 (by decide) ?_
  refine wm_irem hC (pc := 110) dL_circles_110 (by omega) (by omega) ?_
  refine wm_eqI (y := 2) (by decide) ?_
  refine wm_iV hC cv_L_32 kc_X8_arrow rfl rfl (t_arrowV hO (by decide)) rfl (by decide) rfl (Nat.le_of_ble_eq_true rfl) (pc := 111) dL_circles_111 (fun z111 w111 hw111 => ?_)
  obtain ⟨e111, hO⟩ := hw111
  replace e111 := e111.trans civ37
  subst e111
  have hO := hO.to civ38
  generalize push Hs (tb ciN18) = Hs at hO
  refine wm_iconst hC (pc := 114) dL_circles_114 ?_
  refine wm_icmp_ge hC 120 (pc := 115) dL_circles_115 (by decide) (by omega) (by omega) (fun _ => ?_) (fun h => absurd h (by decide))
  refine wm_iload_n hC 1 (pc := 120) dL_circles_120 rfl rfl ?_
  refine wm_iconst hC (pc := 121) dL_circles_121 ?_
  refine wm_icmp_ge hC 138 (pc := 122) dL_circles_122 (by decide) (by omega) (by omega) (fun h => absurd h (by decide)) (fun _ => ?_)
  refine wm_iload_n hC 2 (pc := 125) dL_circles_125 rfl rfl ?_
  refine wm_iconst hC (pc := 126) dL_circles_126 ?_
  refine wm_icmp_ge hC 134 (pc := 127) dL_circles_127 (by decide) (by omega) (by omega) (fun h => absurd h (by decide)) (fun _ => ?_)
  refine wm_iconst hC (pc := 130) dL_circles_130 ?_
  refine wm_goto hC 153 (pc := 131) dL_circles_131 (by decide) ?_
  refine wm_istore hC  (pc := 153) dL_circles_153  (by decide) rfl ?_
  refine wm_show (L' := [some (mvR 0), some (mvI 1), some (mvI 2), some (mvI 1), some (mvI 1)]) rfl rfl rfl rfl ?_
  refine wm_iload hC  (pc := 155) dL_circles_155 rfl ?_
  refine wm_if_eq hC 189 (pc := 157) dL_circles_157 (by decide) (by omega) (fun h => absurd h (by decide)) (fun _ => ?_)
  refine wm_aload_n hC 0 (pc := 160) dL_circles_160 rfl rfl ?_
  refine wm_iconst hC (pc := 161) dL_circles_161 ?_
  refine wm_iload_n hC 1 (pc := 162) dL_circles_162 rfl rfl ?_
  refine wm_iload_n hC 2 (pc := 163) dL_circles_163 rfl rfl ?_
  refine wm_iload_n hC 2 (pc := 164) dL_circles_164 rfl rfl ?_
  refine wm_iconst hC (pc := 165) dL_circles_165 ?_
  refine wm_icmp_ne hC 174 (pc := 166) dL_circles_166 (by decide) (by omega) (by omega) (fun _ => ?_) (fun h => absurd h (by decide))
  refine wm_iload_n hC 1 (pc := 174) dL_circles_174 rfl rfl ?_
  refine wm_iconst hC (pc := 175) dL_circles_175 ?_
  refine wm_iadd hC (pc := 176) dL_circles_176 ?_
  refine wm_eqI (y := 2) (by decide) ?_
  refine wm_bipush hC (pc := 177) dL_circles_177 (by decide) ?_
  refine wm_irem hC (pc := 179) dL_circles_179 (by omega) (by omega) ?_
  refine wm_eqI (y := 2) (by decide) ?_
  refine wm_iV hC cv_L_32 kc_X8_arrow rfl rfl (t_arrowV hO (by decide)) rfl (by decide) rfl (Nat.le_of_ble_eq_true rfl) (pc := 180) dL_circles_180 (fun z180 w180 hw180 => ?_)
  obtain ⟨e180, hO⟩ := hw180
  replace e180 := e180.trans civ39
  subst e180
  have hO := hO.to civ40
  generalize push Hs (tb ciN19) = Hs at hO
  refine wm_iconst hC (pc := 183) dL_circles_183 ?_
  refine wm_icmp_ge hC 189 (pc := 184) dL_circles_184 (by decide) (by omega) (by omega) (fun _ => ?_) (fun h => absurd h (by decide))
  refine wm_iinc hC (v := 3) (pc := 189) dL_circles_189 rfl (by decide) (by decide) rfl ?_
  refine wm_show (L' := [some (mvR 0), some (mvI 1), some (mvI 3), some (mvI 1), some (mvI 1)]) rfl rfl rfl rfl ?_
  refine wm_goto hC 46 (pc := 192) dL_circles_192 (by decide) ?_
  refine wm_iload_n hC 2 (pc := 46) dL_circles_46 rfl rfl ?_
  refine wm_bipush hC (pc := 47) dL_circles_47 (by decide) ?_
  refine wm_icmp_ge hC 195 (pc := 49) dL_circles_49 (by decide) (by omega) (by omega) (fun h => absurd h (by decide)) (fun _ => ?_)
  refine wm_iload_n hC 1 (pc := 52) dL_circles_52 rfl rfl ?_
  refine wm_bipush hC (pc := 53) dL_circles_53 (by decide) ?_
  refine wm_icmp_ge hC 71 (pc := 55) dL_circles_55 (by decide) (by omega) (by omega) (fun h => absurd h (by decide)) (fun _ => ?_)
  refine wm_iload_n hC 2 (pc := 58) dL_circles_58 rfl rfl ?_
  refine wm_iconst hC (pc := 59) dL_circles_59 ?_
  refine wm_icmp_ge hC 67 (pc := 60) dL_circles_60 (by decide) (by omega) (by omega) (fun h => absurd h (by decide)) (fun _ => ?_)
  refine wm_iconst hC (pc := 63) dL_circles_63 ?_
  refine wm_goto hC 86 (pc := 64) dL_circles_64 (by decide) ?_
  refine wm_istore_n hC 3 (pc := 86) dL_circles_86 rfl (by decide) rfl ?_
  refine wm_show (L' := [some (mvR 0), some (mvI 1), some (mvI 3), some (mvI 1), some (mvI 1)]) rfl rfl rfl rfl ?_
  refine wm_iload_n hC 3 (pc := 87) dL_circles_87 rfl rfl ?_
  refine wm_if_eq hC 120 (pc := 88) dL_circles_88 (by decide) (by omega) (fun h => absurd h (by decide)) (fun _ => ?_)
  refine wm_aload_n hC 0 (pc := 91) dL_circles_91 rfl rfl ?_
  refine wm_iconst hC (pc := 92) dL_circles_92 ?_
  refine wm_iload_n hC 1 (pc := 93) dL_circles_93 rfl rfl ?_
  refine wm_iload_n hC 2 (pc := 94) dL_circles_94 rfl rfl ?_
  refine wm_iload_n hC 2 (pc := 95) dL_circles_95 rfl rfl ?_
  refine wm_iconst hC (pc := 96) dL_circles_96 ?_
  refine wm_icmp_ne hC 105 (pc := 97) dL_circles_97 (by decide) (by omega) (by omega) (fun _ => ?_) (fun h => absurd h (by decide))
  refine wm_iload_n hC 1 (pc := 105) dL_circles_105 rfl rfl ?_
  refine wm_iconst hC (pc := 106) dL_circles_106 ?_
  refine wm_iadd hC (pc := 107) dL_circles_107 ?_
  refine wm_eqI (y := 2) (by decide) ?_
  refine wm_bipush hC (pc := 108) dL_circles_108 (by decide) ?_
  refine wm_irem hC (pc := 110) dL_circles_110 (by omega) (by omega) ?_
  refine wm_eqI (y := 2) (by decide) ?_
  refine wm_iV hC cv_L_32 kc_X8_arrow rfl rfl (t_arrowV hO (by decide)) rfl (by decide) rfl (Nat.le_of_ble_eq_true rfl) (pc := 111) dL_circles_111 (fun z111 w111 hw111 => ?_)
  obtain ⟨e111, hO⟩ := hw111
  replace e111 := e111.trans civ41
  subst e111
  have hO := hO.to civ42
  generalize push Hs (tb ciN20) = Hs at hO
  refine wm_iconst hC (pc := 114) dL_circles_114 ?_
  refine wm_icmp_ge hC 120 (pc := 115) dL_circles_115 (by decide) (by omega) (by omega) (fun _ => ?_) (fun h => absurd h (by decide))
  refine wm_iload_n hC 1 (pc := 120) dL_circles_120 rfl rfl ?_
  refine wm_iconst hC (pc := 121) dL_circles_121 ?_
  refine wm_icmp_ge hC 138 (pc := 122) dL_circles_122 (by decide) (by omega) (by omega) (fun h => absurd h (by decide)) (fun _ => ?_)
  refine wm_iload_n hC 2 (pc := 125) dL_circles_125 rfl rfl ?_
  refine wm_iconst hC (pc := 126) dL_circles_126 ?_
  refine wm_icmp_ge hC 134 (pc := 127) dL_circles_127 (by decide) (by omega) (by omega) (fun h => absurd h (by decide)) (fun _ => ?_)
  refine wm_iconst hC (pc := 130) dL_circles_130 ?_
  refine wm_goto hC 153 (pc := 131) dL_circles_131 (by decide) ?_
  refine wm_istore hC  (pc := 153) dL_circles_153  (by decide) rfl ?_
  refine wm_show (L' := [some (mvR 0), some (mvI 1), some (mvI 3), some (mvI 1), some (mvI 1)]) rfl rfl rfl rfl ?_
  refine wm_iload hC  (pc := 155) dL_circles_155 rfl ?_
  refine wm_if_eq hC 189 (pc := 157) dL_circles_157 (by decide) (by omega) (fun h => absurd h (by decide)) (fun _ => ?_)
  refine wm_aload_n hC 0 (pc := 160) dL_circles_160 rfl rfl ?_
  refine wm_iconst hC (pc := 161) dL_circles_161 ?_
  refine wm_iload_n hC 1 (pc := 162) dL_circles_162 rfl rfl ?_
  refine wm_iload_n hC 2 (pc := 163) dL_circles_163 rfl rfl ?_
  refine wm_iload_n hC 2 (pc := 164) dL_circles_164 rfl rfl ?_
  refine wm_iconst hC (pc := 165) dL_circles_165 ?_
  refine wm_icmp_ne hC 174 (pc := 166) dL_circles_166 (by decide) (by omega) (by omega) (fun _ => ?_) (fun h => absurd h (by decide))
  refine wm_iload_n hC 1 (pc := 174) dL_circles_174 rfl rfl ?_
  refine wm_iconst hC (pc := 175) dL_circles_175 ?_
  refine wm_iadd hC (pc := 176) dL_circles_176 ?_
  refine wm_eqI (y := 2) (by decide) ?_
  refine wm_bipush hC (pc := 177) dL_circles_177 (by decide) ?_
  refine wm_irem hC (pc := 179) dL_circles_179 (by omega) (by omega) ?_
  refine wm_eqI (y := 2) (by decide) ?_
  refine wm_iV hC cv_L_32 kc_X8_arrow rfl rfl (t_arrowV hO (by decide)) rfl (by decide) rfl (Nat.le_of_ble_eq_true rfl) (pc := 180) dL_circles_180 (fun z180 w180 hw180 => ?_)
  obtain ⟨e180, hO⟩ := hw180
  replace e180 := e180.trans civ43
  subst e180
  have hO := hO.to civ44
  generalize push Hs (tb ciN21) = Hs at hO
  refine wm_iconst hC (pc := 183) dL_circles_183 ?_
  refine wm_icmp_ge hC 189 (pc := 184) dL_circles_184 (by decide) (by omega) (by omega) (fun _ => ?_) (fun h => absurd h (by decide))
  refine wm_iinc hC (v := 4) (pc := 189) dL_circles_189 rfl (by decide) (by decide) rfl ?_
  refine wm_show (L' := [some (mvR 0), some (mvI 1), some (mvI 4), some (mvI 1), some (mvI 1)]) rfl rfl rfl rfl ?_
  refine wm_goto hC 46 (pc := 192) dL_circles_192 (by decide) ?_
  refine wm_iload_n hC 2 (pc := 46) dL_circles_46 rfl rfl ?_
  refine wm_bipush hC (pc := 47) dL_circles_47 (by decide) ?_
  refine wm_icmp_ge hC 195 (pc := 49) dL_circles_49 (by decide) (by omega) (by omega) (fun h => absurd h (by decide)) (fun _ => ?_)
  refine wm_iload_n hC 1 (pc := 52) dL_circles_52 rfl rfl ?_
  refine wm_bipush hC (pc := 53) dL_circles_53 (by decide) ?_
  refine wm_icmp_ge hC 71 (pc := 55) dL_circles_55 (by decide) (by omega) (by omega) (fun h => absurd h (by decide)) (fun _ => ?_)
  refine wm_iload_n hC 2 (pc := 58) dL_circles_58 rfl rfl ?_
  refine wm_iconst hC (pc := 59) dL_circles_59 ?_
  refine wm_icmp_ge hC 67 (pc := 60) dL_circles_60 (by decide) (by omega) (by omega) (fun h => absurd h (by decide)) (fun _ => ?_)
  refine wm_iconst hC (pc := 63) dL_circles_63 ?_
  refine wm_goto hC 86 (pc := 64) dL_circles_64 (by decide) ?_
  refine wm_istore_n hC 3 (pc := 86) dL_circles_86 rfl (by decide) rfl ?_
  refine wm_show (L' := [some (mvR 0), some (mvI 1), some (mvI 4), some (mvI 1), some (mvI 1)]) rfl rfl rfl rfl ?_
  refine wm_iload_n hC 3 (pc := 87) dL_circles_87 rfl rfl ?_
  refine wm_if_eq hC 120 (pc := 88) dL_circles_88 (by decide) (by omega) (fun h => absurd h (by decide)) (fun _ => ?_)
  refine wm_aload_n hC 0 (pc := 91) dL_circles_91 rfl rfl ?_
  refine wm_iconst hC (pc := 92) dL_circles_92 ?_
  refine wm_iload_n hC 1 (pc := 93) dL_circles_93 rfl rfl ?_
  refine wm_iload_n hC 2 (pc := 94) dL_circles_94 rfl rfl ?_
  refine wm_iload_n hC 2 (pc := 95) dL_circles_95 rfl rfl ?_
  refine wm_iconst hC (pc := 96) dL_circles_96 ?_
  refine wm_icmp_ne hC 105 (pc := 97) dL_circles_97 (by decide) (by omega) (by omega) (fun _ => ?_) (fun h => absurd h (by decide))
  refine wm_iload_n hC 1 (pc := 105) dL_circles_105 rfl rfl ?_
  refine wm_iconst hC (pc := 106) dL_circles_106 ?_
  refine wm_iadd hC (pc := 107) dL_circles_107 ?_
  refine wm_eqI (y := 2) (by decide) ?_
  refine wm_bipush hC (pc := 108) dL_circles_108 (by decide) ?_
  refine wm_irem hC (pc := 110) dL_circles_110 (by omega) (by omega) ?_
  refine wm_eqI (y := 2) (by decide) ?_
  refine wm_iV hC cv_L_32 kc_X8_arrow rfl rfl (t_arrowV hO (by decide)) rfl (by decide) rfl (Nat.le_of_ble_eq_true rfl) (pc := 111) dL_circles_111 (fun z111 w111 hw111 => ?_)
  obtain ⟨e111, hO⟩ := hw111
  replace e111 := e111.trans civ45
  subst e111
  have hO := hO.to civ46
  generalize push Hs (tb ciN22) = Hs at hO
  refine wm_iconst hC (pc := 114) dL_circles_114 ?_
  refine wm_icmp_ge hC 120 (pc := 115) dL_circles_115 (by decide) (by omega) (by omega) (fun _ => ?_) (fun h => absurd h (by decide))
  refine wm_iload_n hC 1 (pc := 120) dL_circles_120 rfl rfl ?_
  refine wm_iconst hC (pc := 121) dL_circles_121 ?_
  refine wm_icmp_ge hC 138 (pc := 122) dL_circles_122 (by decide) (by omega) (by omega) (fun h => absurd h (by decide)) (fun _ => ?_)
  refine wm_iload_n hC 2 (pc := 125) dL_circles_125 rfl rfl ?_
  refine wm_iconst hC (pc := 126) dL_circles_126 ?_
  refine wm_icmp_ge hC 134 (pc := 127) dL_circles_127 (by decide) (by omega) (by omega) (fun h => absurd h (by decide)) (fun _ => ?_)
  refine wm_iconst hC (pc := 130) dL_circles_130 ?_
  refine wm_goto hC 153 (pc := 131) dL_circles_131 (by decide) ?_
  refine wm_istore hC  (pc := 153) dL_circles_153  (by decide) rfl ?_
  refine wm_show (L' := [some (mvR 0), some (mvI 1), some (mvI 4), some (mvI 1), some (mvI 1)]) rfl rfl rfl rfl ?_
  refine wm_iload hC  (pc := 155) dL_circles_155 rfl ?_
  refine wm_if_eq hC 189 (pc := 157) dL_circles_157 (by decide) (by omega) (fun h => absurd h (by decide)) (fun _ => ?_)
  refine wm_aload_n hC 0 (pc := 160) dL_circles_160 rfl rfl ?_
  refine wm_iconst hC (pc := 161) dL_circles_161 ?_
  refine wm_iload_n hC 1 (pc := 162) dL_circles_162 rfl rfl ?_
  refine wm_iload_n hC 2 (pc := 163) dL_circles_163 rfl rfl ?_
  refine wm_iload_n hC 2 (pc := 164) dL_circles_164 rfl rfl ?_
  refine wm_iconst hC (pc := 165) dL_circles_165 ?_
  refine wm_icmp_ne hC 174 (pc := 166) dL_circles_166 (by decide) (by omega) (by omega) (fun _ => ?_) (fun h => absurd h (by decide))
  refine wm_iload_n hC 1 (pc := 174) dL_circles_174 rfl rfl ?_
  refine wm_iconst hC (pc := 175) dL_circles_175 ?_
  refine wm_iadd hC (pc := 176) dL_circles_176 ?_
  refine wm_eqI (y := 2) (by decide) ?_
  refine wm_bipush hC (pc := 177) dL_circles_177 (by decide) ?_
  refine wm_irem hC (pc := 179) dL_circles_179 (by omega) (by omega) ?_
  refine wm_eqI (y := 2) (by decide) ?_
  refine wm_iV hC cv_L_32 kc_X8_arrow rfl rfl (t_arrowV hO (by decide)) rfl (by decide) rfl (Nat.le_of_ble_eq_true rfl) (pc := 180) dL_circles_180 (fun z180 w180 hw180 => ?_)
  obtain ⟨e180, hO⟩ := hw180
  replace e180 := e180.trans civ47
  subst e180
  have hO := hO.to civ48
  generalize push Hs (tb ciN23) = Hs at hO
  refine wm_iconst hC (pc := 183) dL_circles_183 ?_
  refine wm_icmp_ge hC 189 (pc := 184) dL_circles_184 (by decide) (by omega) (by omega) (fun _ => ?_) (fun h => absurd h (by decide))
  refine wm_iinc hC (v := 5) (pc := 189) dL_circles_189 rfl (by decide) (by decide) rfl ?_
  refine wm_show (L' := [some (mvR 0), some (mvI 1), some (mvI 5), some (mvI 1), some (mvI 1)]) rfl rfl rfl rfl ?_
  refine wm_goto hC 46 (pc := 192) dL_circles_192 (by decide) ?_
  refine wm_iload_n hC 2 (pc := 46) dL_circles_46 rfl rfl ?_
  refine wm_bipush hC (pc := 47) dL_circles_47 (by decide) ?_
  refine wm_icmp_ge hC 195 (pc := 49) dL_circles_49 (by decide) (by omega) (by omega) (fun h => absurd h (by decide)) (fun _ => ?_)
  refine wm_iload_n hC 1 (pc := 52) dL_circles_52 rfl rfl ?_
  refine wm_bipush hC (pc := 53) dL_circles_53 (by decide) ?_
  refine wm_icmp_ge hC 71 (pc := 55) dL_circles_55 (by decide) (by omega) (by omega) (fun h => absurd h (by decide)) (fun _ => ?_)
  refine wm_iload_n hC 2 (pc := 58) dL_circles_58 rfl rfl ?_
  refine wm_iconst hC (pc := 59) dL_circles_59 ?_
  refine wm_icmp_ge hC 67 (pc := 60) dL_circles_60 (by decide) (by omega) (by omega) (fun _ => ?_) (fun h => absurd h (by decide))
  refine wm_iconst hC (pc := 67) dL_circles_67 ?_
  refine wm_goto hC 86 (pc := 68) dL_circles_68 (by decide) ?_
  refine wm_istore_n hC 3 (pc := 86) dL_circles_86 rfl (by decide) rfl ?_
  refine wm_show (L' := [some (mvR 0), some (mvI 1), some (mvI 5), some (mvI 0), some (mvI 1)]) rfl rfl rfl rfl ?_
  refine wm_iload_n hC 3 (pc := 87) dL_circles_87 rfl rfl ?_
  refine wm_if_eq hC 120 (pc := 88) dL_circles_88 (by decide) (by omega) (fun _ => ?_) (fun h => absurd h (by decide))
  refine wm_iload_n hC 1 (pc := 120) dL_circles_120 rfl rfl ?_
  refine wm_iconst hC (pc := 121) dL_circles_121 ?_
  refine wm_icmp_ge hC 138 (pc := 122) dL_circles_122 (by decide) (by omega) (by omega) (fun h => absurd h (by decide)) (fun _ => ?_)
  refine wm_iload_n hC 2 (pc := 125) dL_circles_125 rfl rfl ?_
  refine wm_iconst hC (pc := 126) dL_circles_126 ?_
  refine wm_icmp_ge hC 134 (pc := 127) dL_circles_127 (by decide) (by omega) (by omega) (fun _ => ?_) (fun h => absurd h (by decide))
  refine wm_iconst hC (pc := 134) dL_circles_134 ?_
  refine wm_goto hC 153 (pc := 135) dL_circles_135 (by decide) ?_
  refine wm_istore hC  (pc := 153) dL_circles_153  (by decide) rfl ?_
  refine wm_show (L' := [some (mvR 0), some (mvI 1), some (mvI 5), some (mvI 0), some (mvI 0)]) rfl rfl rfl rfl ?_
  refine wm_iload hC  (pc := 155) dL_circles_155 rfl ?_
  refine wm_if_eq hC 189 (pc := 157) dL_circles_157 (by decide) (by omega) (fun _ => ?_) (fun h => absurd h (by decide))
  refine wm_iinc hC (v := 6) (pc := 189) dL_circles_189 rfl (by decide) (by decide) rfl ?_
  refine wm_show (L' := [some (mvR 0), some (mvI 1), some (mvI 6), some (mvI 0), some (mvI 0)]) rfl rfl rfl rfl ?_
  refine wm_goto hC 46 (pc := 192) dL_circles_192 (by decide) ?_
  refine wm_iload_n hC 2 (pc := 46) dL_circles_46 rfl rfl ?_
  refine wm_bipush hC (pc := 47) dL_circles_47 (by decide) ?_
  refine wm_icmp_ge hC 195 (pc := 49) dL_circles_49 (by decide) (by omega) (by omega) (fun _ => ?_) (fun h => absurd h (by decide))
  refine wm_iinc hC (v := 2) (pc := 195) dL_circles_195 rfl (by decide) (by decide) rfl ?_
  refine wm_show (L' := [some (mvR 0), some (mvI 2), some (mvI 6), some (mvI 0), some (mvI 0)]) rfl rfl rfl rfl ?_
  refine wm_goto hC 10 (pc := 198) dL_circles_198 (by decide) ?_
  exact ciS2 hC hO none _ _ _
set_option maxRecDepth 100000 in
set_option maxHeartbeats 4000000 in
theorem ciS0 {l : Launch} {G : mG} {K : mK} {w : mW} {Hs : List Pn} (hC : mC G K 5 RL cL_circles (some .boolean)) (hO : Ob w (tb ciN0) Hs [] (fun _ => 0)) (x1 x2 x3 x4 : Option mV) : Wm l G K 9 5 (qI (fun z _ => z = 1)) 10 [some (mvR 0), some (mvI 0), x2, x3, x4] [] w := by
  refine wm_iload_n hC 1 (pc := 10) dL_circles_10 rfl rfl ?_
  refine wm_bipush hC (pc := 11) dL_circles_11 (by decide) ?_
  refine wm_icmp_ge hC 201 (pc := 13) dL_circles_13 (by decide) (by omega) (by omega) (fun h => absurd h (by decide)) (fun _ => ?_)
  refine wm_aload_n hC 0 (pc := 16) dL_circles_16 rfl rfl ?_
  refine wm_iconst hC (pc := 17) dL_circles_17 ?_
  refine wm_iload_n hC 1 (pc := 18) dL_circles_18 rfl rfl ?_
  refine wm_iconst hC (pc := 19) dL_circles_19 ?_
  refine wm_iV hC cv_L_26 kc_X8_kind rfl rfl (t_kindV hO (by decide)) rfl (by decide) rfl (Nat.le_of_ble_eq_true rfl) (pc := 20) dL_circles_20 (fun z20 w20 hw20 => ?_)
  obtain ⟨e20, hO⟩ := hw20
  replace e20 := e20.trans civ1
  subst e20
  have hO := hO.to civ2
  generalize push Hs (tb ciN0) = Hs at hO
  refine wm_if_ne hC 42 (pc := 23) dL_circles_23 (by decide) (by omega) (fun h => absurd h (by decide)) (fun _ => ?_)
  refine wm_iload_n hC 1 (pc := 26) dL_circles_26 rfl rfl ?_
  refine wm_bipush hC (pc := 27) dL_circles_27 (by decide) ?_
  refine wm_icmp_ge hC 44 (pc := 29) dL_circles_29 (by decide) (by omega) (by omega) (fun h => absurd h (by decide)) (fun _ => ?_)
  refine wm_aload_n hC 0 (pc := 32) dL_circles_32 rfl rfl ?_
  refine wm_iconst hC (pc := 33) dL_circles_33 ?_
  refine wm_iload_n hC 1 (pc := 34) dL_circles_34 rfl rfl ?_
  refine wm_iconst hC (pc := 35) dL_circles_35 ?_
  refine wm_iV hC cv_L_26 kc_X8_kind rfl rfl (t_kindV hO (by decide)) rfl (by decide) rfl (Nat.le_of_ble_eq_true rfl) (pc := 36) dL_circles_36 (fun z36 w36 hw36 => ?_)
  obtain ⟨e36, hO⟩ := hw36
  replace e36 := e36.trans civ3
  subst e36
  have hO := hO.to civ4
  generalize push Hs (tb ciN1) = Hs at hO
  refine wm_if_eq hC 44 (pc := 39) dL_circles_39 (by decide) (by omega) (fun _ => ?_) (fun h => absurd h (by decide))
  refine wm_iconst hC (pc := 44) dL_circles_44 ?_
  refine wm_istore_n hC 2 (pc := 45) dL_circles_45 rfl (by decide) rfl ?_
  refine wm_show (L' := [some (mvR 0), some (mvI 0), some (mvI 0), x3, x4]) rfl rfl rfl rfl ?_
  refine wm_iload_n hC 2 (pc := 46) dL_circles_46 rfl rfl ?_
  refine wm_bipush hC (pc := 47) dL_circles_47 (by decide) ?_
  refine wm_icmp_ge hC 195 (pc := 49) dL_circles_49 (by decide) (by omega) (by omega) (fun h => absurd h (by decide)) (fun _ => ?_)
  refine wm_iload_n hC 1 (pc := 52) dL_circles_52 rfl rfl ?_
  refine wm_bipush hC (pc := 53) dL_circles_53 (by decide) ?_
  refine wm_icmp_ge hC 71 (pc := 55) dL_circles_55 (by decide) (by omega) (by omega) (fun h => absurd h (by decide)) (fun _ => ?_)
  refine wm_iload_n hC 2 (pc := 58) dL_circles_58 rfl rfl ?_
  refine wm_iconst hC (pc := 59) dL_circles_59 ?_
  refine wm_icmp_ge hC 67 (pc := 60) dL_circles_60 (by decide) (by omega) (by omega) (fun h => absurd h (by decide)) (fun _ => ?_)
  refine wm_iconst hC (pc := 63) dL_circles_63 ?_
  refine wm_goto hC 86 (pc := 64) dL_circles_64 (by decide) ?_
  refine wm_istore_n hC 3 (pc := 86) dL_circles_86 rfl (by decide) rfl ?_
  refine wm_show (L' := [some (mvR 0), some (mvI 0), some (mvI 0), some (mvI 1), x4]) rfl rfl rfl rfl ?_
  refine wm_iload_n hC 3 (pc := 87) dL_circles_87 rfl rfl ?_
  refine wm_if_eq hC 120 (pc := 88) dL_circles_88 (by decide) (by omega) (fun h => absurd h (by decide)) (fun _ => ?_)
  refine wm_aload_n hC 0 (pc := 91) dL_circles_91 rfl rfl ?_
  refine wm_iconst hC (pc := 92) dL_circles_92 ?_
  refine wm_iload_n hC 1 (pc := 93) dL_circles_93 rfl rfl ?_
  refine wm_iload_n hC 2 (pc := 94) dL_circles_94 rfl rfl ?_
  refine wm_iload_n hC 2 (pc := 95) dL_circles_95 rfl rfl ?_
  refine wm_iconst hC (pc := 96) dL_circles_96 ?_
  refine wm_icmp_ne hC 105 (pc := 97) dL_circles_97 (by decide) (by omega) (by omega) (fun _ => ?_) (fun h => absurd h (by decide))
  refine wm_iload_n hC 1 (pc := 105) dL_circles_105 rfl rfl ?_
  refine wm_iconst hC (pc := 106) dL_circles_106 ?_
  refine wm_iadd hC (pc := 107) dL_circles_107 ?_
  refine wm_eqI (y := 1) (by decide) ?_
  refine wm_bipush hC (pc := 108) dL_circles_108 (by decide) ?_
  refine wm_irem hC (pc := 110) dL_circles_110 (by omega) (by omega) ?_
  refine wm_eqI (y := 1) (by decide) ?_
  refine wm_iV hC cv_L_32 kc_X8_arrow rfl rfl (t_arrowV hO (by decide)) rfl (by decide) rfl (Nat.le_of_ble_eq_true rfl) (pc := 111) dL_circles_111 (fun z111 w111 hw111 => ?_)
  obtain ⟨e111, hO⟩ := hw111
  replace e111 := e111.trans civ5
  subst e111
  have hO := hO.to civ6
  generalize push Hs (tb ciN2) = Hs at hO
  refine wm_iconst hC (pc := 114) dL_circles_114 ?_
  refine wm_icmp_ge hC 120 (pc := 115) dL_circles_115 (by decide) (by omega) (by omega) (fun _ => ?_) (fun h => absurd h (by decide))
  refine wm_iload_n hC 1 (pc := 120) dL_circles_120 rfl rfl ?_
  refine wm_iconst hC (pc := 121) dL_circles_121 ?_
  refine wm_icmp_ge hC 138 (pc := 122) dL_circles_122 (by decide) (by omega) (by omega) (fun h => absurd h (by decide)) (fun _ => ?_)
  refine wm_iload_n hC 2 (pc := 125) dL_circles_125 rfl rfl ?_
  refine wm_iconst hC (pc := 126) dL_circles_126 ?_
  refine wm_icmp_ge hC 134 (pc := 127) dL_circles_127 (by decide) (by omega) (by omega) (fun h => absurd h (by decide)) (fun _ => ?_)
  refine wm_iconst hC (pc := 130) dL_circles_130 ?_
  refine wm_goto hC 153 (pc := 131) dL_circles_131 (by decide) ?_
  refine wm_istore hC  (pc := 153) dL_circles_153  (by decide) rfl ?_
  refine wm_show (L' := [some (mvR 0), some (mvI 0), some (mvI 0), some (mvI 1), some (mvI 1)]) rfl rfl rfl rfl ?_
  refine wm_iload hC  (pc := 155) dL_circles_155 rfl ?_
  refine wm_if_eq hC 189 (pc := 157) dL_circles_157 (by decide) (by omega) (fun h => absurd h (by decide)) (fun _ => ?_)
  refine wm_aload_n hC 0 (pc := 160) dL_circles_160 rfl rfl ?_
  refine wm_iconst hC (pc := 161) dL_circles_161 ?_
  refine wm_iload_n hC 1 (pc := 162) dL_circles_162 rfl rfl ?_
  refine wm_iload_n hC 2 (pc := 163) dL_circles_163 rfl rfl ?_
  refine wm_iload_n hC 2 (pc := 164) dL_circles_164 rfl rfl ?_
  refine wm_iconst hC (pc := 165) dL_circles_165 ?_
  refine wm_icmp_ne hC 174 (pc := 166) dL_circles_166 (by decide) (by omega) (by omega) (fun _ => ?_) (fun h => absurd h (by decide))
  refine wm_iload_n hC 1 (pc := 174) dL_circles_174 rfl rfl ?_
  refine wm_iconst hC (pc := 175) dL_circles_175 ?_
  refine wm_iadd hC (pc := 176) dL_circles_176 ?_
  refine wm_eqI (y := 1) (by decide) ?_
  refine wm_bipush hC (pc := 177) dL_circles_177 (by decide) ?_
  refine wm_irem hC (pc := 179) dL_circles_179 (by omega) (by omega) ?_
  refine wm_eqI (y := 1) (by decide) ?_
  refine wm_iV hC cv_L_32 kc_X8_arrow rfl rfl (t_arrowV hO (by decide)) rfl (by decide) rfl (Nat.le_of_ble_eq_true rfl) (pc := 180) dL_circles_180 (fun z180 w180 hw180 => ?_)
  obtain ⟨e180, hO⟩ := hw180
  replace e180 := e180.trans civ7
  subst e180
  have hO := hO.to civ8
  generalize push Hs (tb ciN3) = Hs at hO
  refine wm_iconst hC (pc := 183) dL_circles_183 ?_
  refine wm_icmp_ge hC 189 (pc := 184) dL_circles_184 (by decide) (by omega) (by omega) (fun _ => ?_) (fun h => absurd h (by decide))
  refine wm_iinc hC (v := 1) (pc := 189) dL_circles_189 rfl (by decide) (by decide) rfl ?_
  refine wm_show (L' := [some (mvR 0), some (mvI 0), some (mvI 1), some (mvI 1), some (mvI 1)]) rfl rfl rfl rfl ?_
  refine wm_goto hC 46 (pc := 192) dL_circles_192 (by decide) ?_
  refine wm_iload_n hC 2 (pc := 46) dL_circles_46 rfl rfl ?_
  refine wm_bipush hC (pc := 47) dL_circles_47 (by decide) ?_
  refine wm_icmp_ge hC 195 (pc := 49) dL_circles_49 (by decide) (by omega) (by omega) (fun h => absurd h (by decide)) (fun _ => ?_)
  refine wm_iload_n hC 1 (pc := 52) dL_circles_52 rfl rfl ?_
  refine wm_bipush hC (pc := 53) dL_circles_53 (by decide) ?_
  refine wm_icmp_ge hC 71 (pc := 55) dL_circles_55 (by decide) (by omega) (by omega) (fun h => absurd h (by decide)) (fun _ => ?_)
  refine wm_iload_n hC 2 (pc := 58) dL_circles_58 rfl rfl ?_
  refine wm_iconst hC (pc := 59) dL_circles_59 ?_
  refine wm_icmp_ge hC 67 (pc := 60) dL_circles_60 (by decide) (by omega) (by omega) (fun h => absurd h (by decide)) (fun _ => ?_)
  refine wm_iconst hC (pc := 63) dL_circles_63 ?_
  refine wm_goto hC 86 (pc := 64) dL_circles_64 (by decide) ?_
  refine wm_istore_n hC 3 (pc := 86) dL_circles_86 rfl (by decide) rfl ?_
  refine wm_show (L' := [some (mvR 0), some (mvI 0), some (mvI 1), some (mvI 1), some (mvI 1)]) rfl rfl rfl rfl ?_
  refine wm_iload_n hC 3 (pc := 87) dL_circles_87 rfl rfl ?_
  refine wm_if_eq hC 120 (pc := 88) dL_circles_88 (by decide) (by omega) (fun h => absurd h (by decide)) (fun _ => ?_)
  refine wm_aload_n hC 0 (pc := 91) dL_circles_91 rfl rfl ?_
  refine wm_iconst hC (pc := 92) dL_circles_92 ?_
  refine wm_iload_n hC 1 (pc := 93) dL_circles_93 rfl rfl ?_
  refine wm_iload_n hC 2 (pc := 94) dL_circles_94 rfl rfl ?_
  refine wm_iload_n hC 2 (pc := 95) dL_circles_95 rfl rfl ?_
  refine wm_iconst hC (pc := 96) dL_circles_96 ?_
  refine wm_icmp_ne hC 105 (pc := 97) dL_circles_97 (by decide) (by omega) (by omega) (fun _ => ?_) (fun h => absurd h (by decide))
  refine wm_iload_n hC 1 (pc := 105) dL_circles_105 rfl rfl ?_
  refine wm_iconst hC (pc := 106) dL_circles_106 ?_
  refine wm_iadd hC (pc := 107) dL_circles_107 ?_
  refine wm_eqI (y := 1) (by decide) ?_
  refine wm_bipush hC (pc := 108) dL_circles_108 (by decide) ?_
  refine wm_irem hC (pc := 110) dL_circles_110 (by omega) (by omega) ?_
  refine wm_eqI (y := 1) (by decide) ?_
  refine wm_iV hC cv_L_32 kc_X8_arrow rfl rfl (t_arrowV hO (by decide)) rfl (by decide) rfl (Nat.le_of_ble_eq_true rfl) (pc := 111) dL_circles_111 (fun z111 w111 hw111 => ?_)
  obtain ⟨e111, hO⟩ := hw111
  replace e111 := e111.trans civ9
  subst e111
  have hO := hO.to civ10
  generalize push Hs (tb ciN4) = Hs at hO
  refine wm_iconst hC (pc := 114) dL_circles_114 ?_
  refine wm_icmp_ge hC 120 (pc := 115) dL_circles_115 (by decide) (by omega) (by omega) (fun _ => ?_) (fun h => absurd h (by decide))
  refine wm_iload_n hC 1 (pc := 120) dL_circles_120 rfl rfl ?_
  refine wm_iconst hC (pc := 121) dL_circles_121 ?_
  refine wm_icmp_ge hC 138 (pc := 122) dL_circles_122 (by decide) (by omega) (by omega) (fun h => absurd h (by decide)) (fun _ => ?_)
  refine wm_iload_n hC 2 (pc := 125) dL_circles_125 rfl rfl ?_
  refine wm_iconst hC (pc := 126) dL_circles_126 ?_
  refine wm_icmp_ge hC 134 (pc := 127) dL_circles_127 (by decide) (by omega) (by omega) (fun h => absurd h (by decide)) (fun _ => ?_)
  refine wm_iconst hC (pc := 130) dL_circles_130 ?_
  refine wm_goto hC 153 (pc := 131) dL_circles_131 (by decide) ?_
  refine wm_istore hC  (pc := 153) dL_circles_153  (by decide) rfl ?_
  refine wm_show (L' := [some (mvR 0), some (mvI 0), some (mvI 1), some (mvI 1), some (mvI 1)]) rfl rfl rfl rfl ?_
  refine wm_iload hC  (pc := 155) dL_circles_155 rfl ?_
  refine wm_if_eq hC 189 (pc := 157) dL_circles_157 (by decide) (by omega) (fun h => absurd h (by decide)) (fun _ => ?_)
  refine wm_aload_n hC 0 (pc := 160) dL_circles_160 rfl rfl ?_
  refine wm_iconst hC (pc := 161) dL_circles_161 ?_
  refine wm_iload_n hC 1 (pc := 162) dL_circles_162 rfl rfl ?_
  refine wm_iload_n hC 2 (pc := 163) dL_circles_163 rfl rfl ?_
  refine wm_iload_n hC 2 (pc := 164) dL_circles_164 rfl rfl ?_
  refine wm_iconst hC (pc := 165) dL_circles_165 ?_
  refine wm_icmp_ne hC 174 (pc := 166) dL_circles_166 (by decide) (by omega) (by omega) (fun _ => ?_) (fun h => absurd h (by decide))
  refine wm_iload_n hC 1 (pc := 174) dL_circles_174 rfl rfl ?_
  refine wm_iconst hC (pc := 175) dL_circles_175 ?_
  refine wm_iadd hC (pc := 176) dL_circles_176 ?_
  refine wm_eqI (y := 1) (by decide) ?_
  refine wm_bipush hC (pc := 177) dL_circles_177 (by decide) ?_
  refine wm_irem hC (pc := 179) dL_circles_179 (by omega) (by omega) ?_
  refine wm_eqI (y := 1) (by decide) ?_
  refine wm_iV hC cv_L_32 kc_X8_arrow rfl rfl (t_arrowV hO (by decide)) rfl (by decide) rfl (Nat.le_of_ble_eq_true rfl) (pc := 180) dL_circles_180 (fun z180 w180 hw180 => ?_)
  obtain ⟨e180, hO⟩ := hw180
  replace e180 := e180.trans civ11
  subst e180
  have hO := hO.to civ12
  generalize push Hs (tb ciN5) = Hs at hO
  refine wm_iconst hC (pc := 183) dL_circles_183 ?_
  refine wm_icmp_ge hC 189 (pc := 184) dL_circles_184 (by decide) (by omega) (by omega) (fun _ => ?_) (fun h => absurd h (by decide))
  refine wm_iinc hC (v := 2) (pc := 189) dL_circles_189 rfl (by decide) (by decide) rfl ?_
  refine wm_show (L' := [some (mvR 0), some (mvI 0), some (mvI 2), some (mvI 1), some (mvI 1)]) rfl rfl rfl rfl ?_
  refine wm_goto hC 46 (pc := 192) dL_circles_192 (by decide) ?_
  refine wm_iload_n hC 2 (pc := 46) dL_circles_46 rfl rfl ?_
  refine wm_bipush hC (pc := 47) dL_circles_47 (by decide) ?_
  refine wm_icmp_ge hC 195 (pc := 49) dL_circles_49 (by decide) (by omega) (by omega) (fun h => absurd h (by decide)) (fun _ => ?_)
  refine wm_iload_n hC 1 (pc := 52) dL_circles_52 rfl rfl ?_
  refine wm_bipush hC (pc := 53) dL_circles_53 (by decide) ?_
  refine wm_icmp_ge hC 71 (pc := 55) dL_circles_55 (by decide) (by omega) (by omega) (fun h => absurd h (by decide)) (fun _ => ?_)
  refine wm_iload_n hC 2 (pc := 58) dL_circles_58 rfl rfl ?_
  refine wm_iconst hC (pc := 59) dL_circles_59 ?_
  refine wm_icmp_ge hC 67 (pc := 60) dL_circles_60 (by decide) (by omega) (by omega) (fun h => absurd h (by decide)) (fun _ => ?_)
  refine wm_iconst hC (pc := 63) dL_circles_63 ?_
  refine wm_goto hC 86 (pc := 64) dL_circles_64 (by decide) ?_
  refine wm_istore_n hC 3 (pc := 86) dL_circles_86 rfl (by decide) rfl ?_
  refine wm_show (L' := [some (mvR 0), some (mvI 0), some (mvI 2), some (mvI 1), some (mvI 1)]) rfl rfl rfl rfl ?_
  refine wm_iload_n hC 3 (pc := 87) dL_circles_87 rfl rfl ?_
  refine wm_if_eq hC 120 (pc := 88) dL_circles_88 (by decide) (by omega) (fun h => absurd h (by decide)) (fun _ => ?_)
  refine wm_aload_n hC 0 (pc := 91) dL_circles_91 rfl rfl ?_
  refine wm_iconst hC (pc := 92) dL_circles_92 ?_
  refine wm_iload_n hC 1 (pc := 93) dL_circles_93 rfl rfl ?_
  refine wm_iload_n hC 2 (pc := 94) dL_circles_94 rfl rfl ?_
  refine wm_iload_n hC 2 (pc := 95) dL_circles_95 rfl rfl ?_
  refine wm_iconst hC (pc := 96) dL_circles_96 ?_
  refine wm_icmp_ne hC 105 (pc := 97) dL_circles_97 (by decide) (by omega) (by omega) (fun _ => ?_) (fun h => absurd h (by decide))
  refine wm_iload_n hC 1 (pc := 105) dL_circles_105 rfl rfl ?_
  refine wm_iconst hC (pc := 106) dL_circles_106 ?_
  refine wm_iadd hC (pc := 107) dL_circles_107 ?_
  refine wm_eqI (y := 1) (by decide) ?_
  refine wm_bipush hC (pc := 108) dL_circles_108 (by decide) ?_
  refine wm_irem hC (pc := 110) dL_circles_110 (by omega) (by omega) ?_
  refine wm_eqI (y := 1) (by decide) ?_
  refine wm_iV hC cv_L_32 kc_X8_arrow rfl rfl (t_arrowV hO (by decide)) rfl (by decide) rfl (Nat.le_of_ble_eq_true rfl) (pc := 111) dL_circles_111 (fun z111 w111 hw111 => ?_)
  obtain ⟨e111, hO⟩ := hw111
  replace e111 := e111.trans civ13
  subst e111
  have hO := hO.to civ14
  generalize push Hs (tb ciN6) = Hs at hO
  refine wm_iconst hC (pc := 114) dL_circles_114 ?_
  refine wm_icmp_ge hC 120 (pc := 115) dL_circles_115 (by decide) (by omega) (by omega) (fun _ => ?_) (fun h => absurd h (by decide))
  refine wm_iload_n hC 1 (pc := 120) dL_circles_120 rfl rfl ?_
  refine wm_iconst hC (pc := 121) dL_circles_121 ?_
  refine wm_icmp_ge hC 138 (pc := 122) dL_circles_122 (by decide) (by omega) (by omega) (fun h => absurd h (by decide)) (fun _ => ?_)
  refine wm_iload_n hC 2 (pc := 125) dL_circles_125 rfl rfl ?_
  refine wm_iconst hC (pc := 126) dL_circles_126 ?_
  refine wm_icmp_ge hC 134 (pc := 127) dL_circles_127 (by decide) (by omega) (by omega) (fun h => absurd h (by decide)) (fun _ => ?_)
  refine wm_iconst hC (pc := 130) dL_circles_130 ?_
  refine wm_goto hC 153 (pc := 131) dL_circles_131 (by decide) ?_
  refine wm_istore hC  (pc := 153) dL_circles_153  (by decide) rfl ?_
  refine wm_show (L' := [some (mvR 0), some (mvI 0), some (mvI 2), some (mvI 1), some (mvI 1)]) rfl rfl rfl rfl ?_
  refine wm_iload hC  (pc := 155) dL_circles_155 rfl ?_
  refine wm_if_eq hC 189 (pc := 157) dL_circles_157 (by decide) (by omega) (fun h => absurd h (by decide)) (fun _ => ?_)
  refine wm_aload_n hC 0 (pc := 160) dL_circles_160 rfl rfl ?_
  refine wm_iconst hC (pc := 161) dL_circles_161 ?_
  refine wm_iload_n hC 1 (pc := 162) dL_circles_162 rfl rfl ?_
  refine wm_iload_n hC 2 (pc := 163) dL_circles_163 rfl rfl ?_
  refine wm_iload_n hC 2 (pc := 164) dL_circles_164 rfl rfl ?_
  refine wm_iconst hC (pc := 165) dL_circles_165 ?_
  refine wm_icmp_ne hC 174 (pc := 166) dL_circles_166 (by decide) (by omega) (by omega) (fun _ => ?_) (fun h => absurd h (by decide))
  refine wm_iload_n hC 1 (pc := 174) dL_circles_174 rfl rfl ?_
  refine wm_iconst hC (pc := 175) dL_circles_175 ?_
  refine wm_iadd hC (pc := 176) dL_circles_176 ?_
  refine wm_eqI (y := 1) (by decide) ?_
  refine wm_bipush hC (pc := 177) dL_circles_177 (by decide) ?_
  refine wm_irem hC (pc := 179) dL_circles_179 (by omega) (by omega) ?_
  refine wm_eqI (y := 1) (by decide) ?_
  refine wm_iV hC cv_L_32 kc_X8_arrow rfl rfl (t_arrowV hO (by decide)) rfl (by decide) rfl (Nat.le_of_ble_eq_true rfl) (pc := 180) dL_circles_180 (fun z180 w180 hw180 => ?_)
  obtain ⟨e180, hO⟩ := hw180
  replace e180 := e180.trans civ15
  subst e180
  have hO := hO.to civ16
  generalize push Hs (tb ciN7) = Hs at hO
  refine wm_iconst hC (pc := 183) dL_circles_183 ?_
  refine wm_icmp_ge hC 189 (pc := 184) dL_circles_184 (by decide) (by omega) (by omega) (fun _ => ?_) (fun h => absurd h (by decide))
  refine wm_iinc hC (v := 3) (pc := 189) dL_circles_189 rfl (by decide) (by decide) rfl ?_
  refine wm_show (L' := [some (mvR 0), some (mvI 0), some (mvI 3), some (mvI 1), some (mvI 1)]) rfl rfl rfl rfl ?_
  refine wm_goto hC 46 (pc := 192) dL_circles_192 (by decide) ?_
  refine wm_iload_n hC 2 (pc := 46) dL_circles_46 rfl rfl ?_
  refine wm_bipush hC (pc := 47) dL_circles_47 (by decide) ?_
  refine wm_icmp_ge hC 195 (pc := 49) dL_circles_49 (by decide) (by omega) (by omega) (fun h => absurd h (by decide)) (fun _ => ?_)
  refine wm_iload_n hC 1 (pc := 52) dL_circles_52 rfl rfl ?_
  refine wm_bipush hC (pc := 53) dL_circles_53 (by decide) ?_
  refine wm_icmp_ge hC 71 (pc := 55) dL_circles_55 (by decide) (by omega) (by omega) (fun h => absurd h (by decide)) (fun _ => ?_)
  refine wm_iload_n hC 2 (pc := 58) dL_circles_58 rfl rfl ?_
  refine wm_iconst hC (pc := 59) dL_circles_59 ?_
  refine wm_icmp_ge hC 67 (pc := 60) dL_circles_60 (by decide) (by omega) (by omega) (fun h => absurd h (by decide)) (fun _ => ?_)
  refine wm_iconst hC (pc := 63) dL_circles_63 ?_
  refine wm_goto hC 86 (pc := 64) dL_circles_64 (by decide) ?_
  refine wm_istore_n hC 3 (pc := 86) dL_circles_86 rfl (by decide) rfl ?_
  refine wm_show (L' := [some (mvR 0), some (mvI 0), some (mvI 3), some (mvI 1), some (mvI 1)]) rfl rfl rfl rfl ?_
  refine wm_iload_n hC 3 (pc := 87) dL_circles_87 rfl rfl ?_
  refine wm_if_eq hC 120 (pc := 88) dL_circles_88 (by decide) (by omega) (fun h => absurd h (by decide)) (fun _ => ?_)
  refine wm_aload_n hC 0 (pc := 91) dL_circles_91 rfl rfl ?_
  refine wm_iconst hC (pc := 92) dL_circles_92 ?_
  refine wm_iload_n hC 1 (pc := 93) dL_circles_93 rfl rfl ?_
  refine wm_iload_n hC 2 (pc := 94) dL_circles_94 rfl rfl ?_
  refine wm_iload_n hC 2 (pc := 95) dL_circles_95 rfl rfl ?_
  refine wm_iconst hC (pc := 96) dL_circles_96 ?_
  refine wm_icmp_ne hC 105 (pc := 97) dL_circles_97 (by decide) (by omega) (by omega) (fun _ => ?_) (fun h => absurd h (by decide))
  refine wm_iload_n hC 1 (pc := 105) dL_circles_105 rfl rfl ?_
  refine wm_iconst hC (pc := 106) dL_circles_106 ?_
  refine wm_iadd hC (pc := 107) dL_circles_107 ?_
  refine wm_eqI (y := 1) (by decide) ?_
  refine wm_bipush hC (pc := 108) dL_circles_108 (by decide) ?_
  refine wm_irem hC (pc := 110) dL_circles_110 (by omega) (by omega) ?_
  refine wm_eqI (y := 1) (by decide) ?_
  refine wm_iV hC cv_L_32 kc_X8_arrow rfl rfl (t_arrowV hO (by decide)) rfl (by decide) rfl (Nat.le_of_ble_eq_true rfl) (pc := 111) dL_circles_111 (fun z111 w111 hw111 => ?_)
  obtain ⟨e111, hO⟩ := hw111
  replace e111 := e111.trans civ17
  subst e111
  have hO := hO.to civ18
  generalize push Hs (tb ciN8) = Hs at hO
  refine wm_iconst hC (pc := 114) dL_circles_114 ?_
  refine wm_icmp_ge hC 120 (pc := 115) dL_circles_115 (by decide) (by omega) (by omega) (fun _ => ?_) (fun h => absurd h (by decide))
  refine wm_iload_n hC 1 (pc := 120) dL_circles_120 rfl rfl ?_
  refine wm_iconst hC (pc := 121) dL_circles_121 ?_
  refine wm_icmp_ge hC 138 (pc := 122) dL_circles_122 (by decide) (by omega) (by omega) (fun h => absurd h (by decide)) (fun _ => ?_)
  refine wm_iload_n hC 2 (pc := 125) dL_circles_125 rfl rfl ?_
  refine wm_iconst hC (pc := 126) dL_circles_126 ?_
  refine wm_icmp_ge hC 134 (pc := 127) dL_circles_127 (by decide) (by omega) (by omega) (fun h => absurd h (by decide)) (fun _ => ?_)
  refine wm_iconst hC (pc := 130) dL_circles_130 ?_
  refine wm_goto hC 153 (pc := 131) dL_circles_131 (by decide) ?_
  refine wm_istore hC  (pc := 153) dL_circles_153  (by decide) rfl ?_
  refine wm_show (L' := [some (mvR 0), some (mvI 0), some (mvI 3), some (mvI 1), some (mvI 1)]) rfl rfl rfl rfl ?_
  refine wm_iload hC  (pc := 155) dL_circles_155 rfl ?_
  refine wm_if_eq hC 189 (pc := 157) dL_circles_157 (by decide) (by omega) (fun h => absurd h (by decide)) (fun _ => ?_)
  refine wm_aload_n hC 0 (pc := 160) dL_circles_160 rfl rfl ?_
  refine wm_iconst hC (pc := 161) dL_circles_161 ?_
  refine wm_iload_n hC 1 (pc := 162) dL_circles_162 rfl rfl ?_
  refine wm_iload_n hC 2 (pc := 163) dL_circles_163 rfl rfl ?_
  refine wm_iload_n hC 2 (pc := 164) dL_circles_164 rfl rfl ?_
  refine wm_iconst hC (pc := 165) dL_circles_165 ?_
  refine wm_icmp_ne hC 174 (pc := 166) dL_circles_166 (by decide) (by omega) (by omega) (fun _ => ?_) (fun h => absurd h (by decide))
  refine wm_iload_n hC 1 (pc := 174) dL_circles_174 rfl rfl ?_
  refine wm_iconst hC (pc := 175) dL_circles_175 ?_
  refine wm_iadd hC (pc := 176) dL_circles_176 ?_
  refine wm_eqI (y := 1) (by decide) ?_
  refine wm_bipush hC (pc := 177) dL_circles_177 (by decide) ?_
  refine wm_irem hC (pc := 179) dL_circles_179 (by omega) (by omega) ?_
  refine wm_eqI (y := 1) (by decide) ?_
  refine wm_iV hC cv_L_32 kc_X8_arrow rfl rfl (t_arrowV hO (by decide)) rfl (by decide) rfl (Nat.le_of_ble_eq_true rfl) (pc := 180) dL_circles_180 (fun z180 w180 hw180 => ?_)
  obtain ⟨e180, hO⟩ := hw180
  replace e180 := e180.trans civ19
  subst e180
  have hO := hO.to civ20
  generalize push Hs (tb ciN9) = Hs at hO
  refine wm_iconst hC (pc := 183) dL_circles_183 ?_
  refine wm_icmp_ge hC 189 (pc := 184) dL_circles_184 (by decide) (by omega) (by omega) (fun _ => ?_) (fun h => absurd h (by decide))
  refine wm_iinc hC (v := 4) (pc := 189) dL_circles_189 rfl (by decide) (by decide) rfl ?_
  refine wm_show (L' := [some (mvR 0), some (mvI 0), some (mvI 4), some (mvI 1), some (mvI 1)]) rfl rfl rfl rfl ?_
  refine wm_goto hC 46 (pc := 192) dL_circles_192 (by decide) ?_
  refine wm_iload_n hC 2 (pc := 46) dL_circles_46 rfl rfl ?_
  refine wm_bipush hC (pc := 47) dL_circles_47 (by decide) ?_
  refine wm_icmp_ge hC 195 (pc := 49) dL_circles_49 (by decide) (by omega) (by omega) (fun h => absurd h (by decide)) (fun _ => ?_)
  refine wm_iload_n hC 1 (pc := 52) dL_circles_52 rfl rfl ?_
  refine wm_bipush hC (pc := 53) dL_circles_53 (by decide) ?_
  refine wm_icmp_ge hC 71 (pc := 55) dL_circles_55 (by decide) (by omega) (by omega) (fun h => absurd h (by decide)) (fun _ => ?_)
  refine wm_iload_n hC 2 (pc := 58) dL_circles_58 rfl rfl ?_
  refine wm_iconst hC (pc := 59) dL_circles_59 ?_
  refine wm_icmp_ge hC 67 (pc := 60) dL_circles_60 (by decide) (by omega) (by omega) (fun h => absurd h (by decide)) (fun _ => ?_)
  refine wm_iconst hC (pc := 63) dL_circles_63 ?_
  refine wm_goto hC 86 (pc := 64) dL_circles_64 (by decide) ?_
  refine wm_istore_n hC 3 (pc := 86) dL_circles_86 rfl (by decide) rfl ?_
  refine wm_show (L' := [some (mvR 0), some (mvI 0), some (mvI 4), some (mvI 1), some (mvI 1)]) rfl rfl rfl rfl ?_
  refine wm_iload_n hC 3 (pc := 87) dL_circles_87 rfl rfl ?_
  refine wm_if_eq hC 120 (pc := 88) dL_circles_88 (by decide) (by omega) (fun h => absurd h (by decide)) (fun _ => ?_)
  refine wm_aload_n hC 0 (pc := 91) dL_circles_91 rfl rfl ?_
  refine wm_iconst hC (pc := 92) dL_circles_92 ?_
  refine wm_iload_n hC 1 (pc := 93) dL_circles_93 rfl rfl ?_
  refine wm_iload_n hC 2 (pc := 94) dL_circles_94 rfl rfl ?_
  refine wm_iload_n hC 2 (pc := 95) dL_circles_95 rfl rfl ?_
  refine wm_iconst hC (pc := 96) dL_circles_96 ?_
  refine wm_icmp_ne hC 105 (pc := 97) dL_circles_97 (by decide) (by omega) (by omega) (fun _ => ?_) (fun h => absurd h (by decide))
  refine wm_iload_n hC 1 (pc := 105) dL_circles_105 rfl rfl ?_
  refine wm_iconst hC (pc := 106) dL_circles_106 ?_
  refine wm_iadd hC (pc := 107) dL_circles_107 ?_
  refine wm_eqI (y := 1) (by decide) ?_
  refine wm_bipush hC (pc := 108) dL_circles_108 (by decide) ?_
  refine wm_irem hC (pc := 110) dL_circles_110 (by omega) (by omega) ?_
  refine wm_eqI (y := 1) (by decide) ?_
  refine wm_iV hC cv_L_32 kc_X8_arrow rfl rfl (t_arrowV hO (by decide)) rfl (by decide) rfl (Nat.le_of_ble_eq_true rfl) (pc := 111) dL_circles_111 (fun z111 w111 hw111 => ?_)
  obtain ⟨e111, hO⟩ := hw111
  replace e111 := e111.trans civ21
  subst e111
  have hO := hO.to civ22
  generalize push Hs (tb ciN10) = Hs at hO
  refine wm_iconst hC (pc := 114) dL_circles_114 ?_
  refine wm_icmp_ge hC 120 (pc := 115) dL_circles_115 (by decide) (by omega) (by omega) (fun _ => ?_) (fun h => absurd h (by decide))
  refine wm_iload_n hC 1 (pc := 120) dL_circles_120 rfl rfl ?_
  refine wm_iconst hC (pc := 121) dL_circles_121 ?_
  refine wm_icmp_ge hC 138 (pc := 122) dL_circles_122 (by decide) (by omega) (by omega) (fun h => absurd h (by decide)) (fun _ => ?_)
  refine wm_iload_n hC 2 (pc := 125) dL_circles_125 rfl rfl ?_
  refine wm_iconst hC (pc := 126) dL_circles_126 ?_
  refine wm_icmp_ge hC 134 (pc := 127) dL_circles_127 (by decide) (by omega) (by omega) (fun h => absurd h (by decide)) (fun _ => ?_)
  refine wm_iconst hC (pc := 130) dL_circles_130 ?_
  refine wm_goto hC 153 (pc := 131) dL_circles_131 (by decide) ?_
  refine wm_istore hC  (pc := 153) dL_circles_153  (by decide) rfl ?_
  refine wm_show (L' := [some (mvR 0), some (mvI 0), some (mvI 4), some (mvI 1), some (mvI 1)]) rfl rfl rfl rfl ?_
  refine wm_iload hC  (pc := 155) dL_circles_155 rfl ?_
  refine wm_if_eq hC 189 (pc := 157) dL_circles_157 (by decide) (by omega) (fun h => absurd h (by decide)) (fun _ => ?_)
  refine wm_aload_n hC 0 (pc := 160) dL_circles_160 rfl rfl ?_
  refine wm_iconst hC (pc := 161) dL_circles_161 ?_
  refine wm_iload_n hC 1 (pc := 162) dL_circles_162 rfl rfl ?_
  refine wm_iload_n hC 2 (pc := 163) dL_circles_163 rfl rfl ?_
  refine wm_iload_n hC 2 (pc := 164) dL_circles_164 rfl rfl ?_
  refine wm_iconst hC (pc := 165) dL_circles_165 ?_
  refine wm_icmp_ne hC 174 (pc := 166) dL_circles_166 (by decide) (by omega) (by omega) (fun _ => ?_) (fun h => absurd h (by decide))
  refine wm_iload_n hC 1 (pc := 174) dL_circles_174 rfl rfl ?_
  refine wm_iconst hC (pc := 175) dL_circles_175 ?_
  refine wm_iadd hC (pc := 176) dL_circles_176 ?_
  refine wm_eqI (y := 1) (by decide) ?_
  refine wm_bipush hC (pc := 177) dL_circles_177 (by decide) ?_
  refine wm_irem hC (pc := 179) dL_circles_179 (by omega) (by omega) ?_
  refine wm_eqI (y := 1) (by decide) ?_
  refine wm_iV hC cv_L_32 kc_X8_arrow rfl rfl (t_arrowV hO (by decide)) rfl (by decide) rfl (Nat.le_of_ble_eq_true rfl) (pc := 180) dL_circles_180 (fun z180 w180 hw180 => ?_)
  obtain ⟨e180, hO⟩ := hw180
  replace e180 := e180.trans civ23
  subst e180
  have hO := hO.to civ24
  generalize push Hs (tb ciN11) = Hs at hO
  refine wm_iconst hC (pc := 183) dL_circles_183 ?_
  refine wm_icmp_ge hC 189 (pc := 184) dL_circles_184 (by decide) (by omega) (by omega) (fun _ => ?_) (fun h => absurd h (by decide))
  refine wm_iinc hC (v := 5) (pc := 189) dL_circles_189 rfl (by decide) (by decide) rfl ?_
  refine wm_show (L' := [some (mvR 0), some (mvI 0), some (mvI 5), some (mvI 1), some (mvI 1)]) rfl rfl rfl rfl ?_
  refine wm_goto hC 46 (pc := 192) dL_circles_192 (by decide) ?_
  refine wm_iload_n hC 2 (pc := 46) dL_circles_46 rfl rfl ?_
  refine wm_bipush hC (pc := 47) dL_circles_47 (by decide) ?_
  refine wm_icmp_ge hC 195 (pc := 49) dL_circles_49 (by decide) (by omega) (by omega) (fun h => absurd h (by decide)) (fun _ => ?_)
  refine wm_iload_n hC 1 (pc := 52) dL_circles_52 rfl rfl ?_
  refine wm_bipush hC (pc := 53) dL_circles_53 (by decide) ?_
  refine wm_icmp_ge hC 71 (pc := 55) dL_circles_55 (by decide) (by omega) (by omega) (fun h => absurd h (by decide)) (fun _ => ?_)
  refine wm_iload_n hC 2 (pc := 58) dL_circles_58 rfl rfl ?_
  refine wm_iconst hC (pc := 59) dL_circles_59 ?_
  refine wm_icmp_ge hC 67 (pc := 60) dL_circles_60 (by decide) (by omega) (by omega) (fun _ => ?_) (fun h => absurd h (by decide))
  refine wm_iconst hC (pc := 67) dL_circles_67 ?_
  refine wm_goto hC 86 (pc := 68) dL_circles_68 (by decide) ?_
  refine wm_istore_n hC 3 (pc := 86) dL_circles_86 rfl (by decide) rfl ?_
  refine wm_show (L' := [some (mvR 0), some (mvI 0), some (mvI 5), some (mvI 0), some (mvI 1)]) rfl rfl rfl rfl ?_
  refine wm_iload_n hC 3 (pc := 87) dL_circles_87 rfl rfl ?_
  refine wm_if_eq hC 120 (pc := 88) dL_circles_88 (by decide) (by omega) (fun _ => ?_) (fun h => absurd h (by decide))
  refine wm_iload_n hC 1 (pc := 120) dL_circles_120 rfl rfl ?_
  refine wm_iconst hC (pc := 121) dL_circles_121 ?_
  refine wm_icmp_ge hC 138 (pc := 122) dL_circles_122 (by decide) (by omega) (by omega) (fun h => absurd h (by decide)) (fun _ => ?_)
  refine wm_iload_n hC 2 (pc := 125) dL_circles_125 rfl rfl ?_
  refine wm_iconst hC (pc := 126) dL_circles_126 ?_
  refine wm_icmp_ge hC 134 (pc := 127) dL_circles_127 (by decide) (by omega) (by omega) (fun _ => ?_) (fun h => absurd h (by decide))
  refine wm_iconst hC (pc := 134) dL_circles_134 ?_
  refine wm_goto hC 153 (pc := 135) dL_circles_135 (by decide) ?_
  refine wm_istore hC  (pc := 153) dL_circles_153  (by decide) rfl ?_
  refine wm_show (L' := [some (mvR 0), some (mvI 0), some (mvI 5), some (mvI 0), some (mvI 0)]) rfl rfl rfl rfl ?_
  refine wm_iload hC  (pc := 155) dL_circles_155 rfl ?_
  refine wm_if_eq hC 189 (pc := 157) dL_circles_157 (by decide) (by omega) (fun _ => ?_) (fun h => absurd h (by decide))
  refine wm_iinc hC (v := 6) (pc := 189) dL_circles_189 rfl (by decide) (by decide) rfl ?_
  refine wm_show (L' := [some (mvR 0), some (mvI 0), some (mvI 6), some (mvI 0), some (mvI 0)]) rfl rfl rfl rfl ?_
  refine wm_goto hC 46 (pc := 192) dL_circles_192 (by decide) ?_
  refine wm_iload_n hC 2 (pc := 46) dL_circles_46 rfl rfl ?_
  refine wm_bipush hC (pc := 47) dL_circles_47 (by decide) ?_
  refine wm_icmp_ge hC 195 (pc := 49) dL_circles_49 (by decide) (by omega) (by omega) (fun _ => ?_) (fun h => absurd h (by decide))
  refine wm_iinc hC (v := 1) (pc := 195) dL_circles_195 rfl (by decide) (by decide) rfl ?_
  refine wm_show (L' := [some (mvR 0), some (mvI 1), some (mvI 6), some (mvI 0), some (mvI 0)]) rfl rfl rfl rfl ?_
  refine wm_goto hC 10 (pc := 198) dL_circles_198 (by decide) ?_
  exact ciS1 hC hO none _ _ _
set_option maxRecDepth 100000 in
set_option maxHeartbeats 4000000 in
theorem mf_circles {l : Launch} {G : mG} : MF l G 9 31 1915 yL_circles cL_circles 5 (some .boolean) [] (fun z => z = 1) := by
  refine MF.intro (by decide) rfl (by decide) [none, none, none, none, none] (Nat.le_of_ble_eq_true rfl) rfl (fun _ => rfl) dL_circles_0 dL_circles_3 dL_circles_4 (fun G K hC => ?_)
  have hO := mw0_ob
  have hO := hO.to civ0
  generalize mw0 = w at hO ⊢
  refine wm_astore_n hC 0 (pc := 7) dL_circles_7 rfl (by decide) rfl ?_
  refine wm_show (L' := [some (mvR 0), none, none, none, none]) rfl rfl rfl rfl ?_
  refine wm_iconst hC (pc := 8) dL_circles_8 ?_
  refine wm_istore_n hC 1 (pc := 9) dL_circles_9 rfl (by decide) rfl ?_
  refine wm_show (L' := [some (mvR 0), some (mvI 0), none, none, none]) rfl rfl rfl rfl ?_
  exact ciS0 hC hO none _ _ _
