theorem d_La_law_334 : decode code 334 = .ok (.aload_n 1, 1) := by decide +kernel
theorem d_La_law_335 : decode code 335 = .ok (.aload_n 0, 1) := by decide +kernel
theorem d_La_law_336 : decode code 336 = .ok (.iload_n 3, 1) := by decide +kernel
theorem d_La_law_337 : decode code 337 = .ok (.iconst 1, 1) := by decide +kernel
theorem d_La_law_338 : decode code 338 = .ok (.iadd, 1) := by decide +kernel
theorem d_La_law_339 : decode code 339 = .ok (.iaload, 1) := by decide +kernel
theorem d_La_law_340 : decode code 340 = .ok (.aload_n 0, 1) := by decide +kernel
theorem d_La_law_341 : decode code 341 = .ok (.iload_n 3, 1) := by decide +kernel
theorem d_La_law_342 : decode code 342 = .ok (.iconst 2, 1) := by decide +kernel
theorem d_La_law_343 : decode code 343 = .ok (.iadd, 1) := by decide +kernel
theorem d_La_law_344 : decode code 344 = .ok (.iaload, 1) := by decide +kernel
theorem d_La_law_345 : decode code 345 = .ok (.invokevirtual 39, 3) := by decide +kernel
theorem d_La_law_348 : decode code 348 = .ok (.aload_n 2, 1) := by decide +kernel
theorem d_La_law_349 : decode code 349 = .ok (.aload_n 0, 1) := by decide +kernel
theorem d_La_law_350 : decode code 350 = .ok (.iload_n 3, 1) := by decide +kernel
theorem d_La_law_351 : decode code 351 = .ok (.iconst 1, 1) := by decide +kernel
theorem d_La_law_352 : decode code 352 = .ok (.iadd, 1) := by decide +kernel
theorem d_La_law_353 : decode code 353 = .ok (.iaload, 1) := by decide +kernel
theorem d_La_law_354 : decode code 354 = .ok (.aload_n 0, 1) := by decide +kernel
theorem d_La_law_355 : decode code 355 = .ok (.iload_n 3, 1) := by decide +kernel
theorem d_La_law_356 : decode code 356 = .ok (.iconst 2, 1) := by decide +kernel
theorem d_La_law_357 : decode code 357 = .ok (.iadd, 1) := by decide +kernel
theorem d_La_law_358 : decode code 358 = .ok (.iaload, 1) := by decide +kernel
theorem d_La_law_359 : decode code 359 = .ok (.invokevirtual 43, 3) := by decide +kernel
theorem d_La_law_362 : decode code 362 = .ok (.if_icmp .eq (569), 3) := by decide +kernel
theorem d_La_law_365 : decode code 365 = .ok (.iconst 0, 1) := by decide +kernel
theorem d_La_law_366 : decode code 366 = .ok (.ireturn, 1) := by decide +kernel
set_option maxHeartbeats 4000000 in
set_option maxRecDepth 100000 in
theorem La_c4 {p : Program} {l : Launch} {e : Env} {s : State} {m : MethodId} {below : List Frame} {meth : Method} {c : Code} {b L : Nat} {xs : Nat → Int32} {dC : Nat → ClassId} {dI : Nat → Nat → Nat} {cI cJ cG cZ : ClassId} {a a' : Nat → Nat} {nc ns : Nat} {Rel : zw_Z → zw_Z → Prop} {k : Nat} (hL : L ≤ 2561) (C0 : lw_At p s m meth c b L xs) (hN : zw_N s) (hK : va_K (dC, dI) vwCl [(cI, .int), (cJ, .long), (cG, .array .int), (cZ, .boolean)] s) (hnc : nc ≤ 600000) (hns : ns ≤ 7302250) (hk : k + 5 ≤ L) (hst : st_creep Rel) (hg : La_G p l e s m below meth c b dC dI cI cJ cG cZ a a' nc ns Rel 931 k) : La_G p l e s m below meth c b dC dI cI cJ cG cZ a a' nc ns Rel 334 k := by
  obtain ⟨hx, hb, hr, hml, hown0, hts0, hX, hbl, hlocks, hgv⟩ := id C0
  have hown : s.vm.findClass R_La = some m.cls := hown0
  have hA : ∀ q : Nat, s.heap.size ≤ q → (fun q : Nat => s.heap.size ≤ q) q := fun _ h => h
  have hbA : ¬ (fun q : Nat => s.heap.size ≤ q) b := Nat.not_le.mpr hbl
  have ht : ∀ w ∈ zw_tbl, w.before #[Value.ref b] s = true := fun w h => hts0 w (List.mem_filter.mp h).1
  have hts : ∀ w ∈ (Cond.initialized R_La :: zw_tbl), w.before #[Value.ref b] s = true := fun w h => (List.mem_cons.mp h).elim (fun q => q ▸ ht _ kw_0) (ht w)
  intro fi fl ai al gi gl bi bl H locs ls hR hPA hPB hD hS hl
  have h_1 : vp_in (nI k + (1 : Int32)) L := La_in (j := 1) (by omega) hL
  have h_2 : vp_in (nI k + (2 : Int32)) L := La_in (j := 2) (by omega) hL
  have hw := hst fi fl ai al gi gl bi bl (xs (nI k + (1 : Int32)).toNatClampNeg) (xs (nI k + (2 : Int32)).toNatClampNeg) hR
  refine lv_aload_n hx hb d_La_law_334 rfl (lv_at hl 1 rfl) ?_
  refine lv_aload_n hx hb d_La_law_335 rfl (lv_at hl 0 rfl) ?_
  refine lv_iload_n hx hb d_La_law_336 rfl (lv_at hl 3 rfl) ?_
  refine lv_iconst (v := (1 : Int32)) hx hb d_La_law_337 (by decide) ?_
  refine lv_iadd hx hb d_La_law_338 ?_
  refine va_sld hx hb hX hbl hbA hS h_1 d_La_law_339 ?_
  refine lv_aload_n hx hb d_La_law_340 rfl (lv_at hl 0 rfl) ?_
  refine lv_iload_n hx hb d_La_law_341 rfl (lv_at hl 3 rfl) ?_
  refine lv_iconst (v := (2 : Int32)) hx hb d_La_law_342 (by decide) ?_
  refine lv_iadd hx hb d_La_law_343 ?_
  refine va_sld hx hb hX hbl hbA hS h_2 d_La_law_344 ?_
  refine zw_lAi (va_runV (As := [.int (xs (nI k + (1 : Int32)).toNatClampNeg), .int (xs (nI k + (2 : Int32)).toNatClampNeg)]) (rest := []) ⟨hx, hb, hml, hown, hts⟩ (c_SS_creep l dC dI cI cJ cG cZ a H.size fi fl ai al (xs (nI k + (1 : Int32)).toNatClampNeg) (xs (nI k + (2 : Int32)).toNatClampNeg) _ hw) (cwV 2 hts (zw_goodV kw_302 kw_303 kw_304 kw_1 kw_305) rfl rfl rfl hd_SS_creep ⟨Nat.le_of_ble_eq_true rfl, Nat.le_of_ble_eq_true rfl⟩) (zw_preVw (ci := 0) (q0 := 0) hK hN hPA (zw_DL hD) rfl rfl) rfl rfl hl.1 rfl (lv_room (Nat.le_of_ble_eq_true rfl)) d_La_law_345 ⟨hnc, hns⟩) hPB hD hS hA (fun rA fi' fl' ai' al' H locs hw hPA hPB hD hS => ?_)
  obtain ⟨rfl, rfl, hw⟩ := hw
  refine lv_aload_n hx hb d_La_law_348 rfl (lv_at hl 2 rfl) ?_
  refine lv_aload_n hx hb d_La_law_349 rfl (lv_at hl 0 rfl) ?_
  refine lv_iload_n hx hb d_La_law_350 rfl (lv_at hl 3 rfl) ?_
  refine lv_iconst (v := (1 : Int32)) hx hb d_La_law_351 (by decide) ?_
  refine lv_iadd hx hb d_La_law_352 ?_
  refine va_sld hx hb hX hbl hbA hS h_1 d_La_law_353 ?_
  refine lv_aload_n hx hb d_La_law_354 rfl (lv_at hl 0 rfl) ?_
  refine lv_iload_n hx hb d_La_law_355 rfl (lv_at hl 3 rfl) ?_
  refine lv_iconst (v := (2 : Int32)) hx hb d_La_law_356 (by decide) ?_
  refine lv_iadd hx hb d_La_law_357 ?_
  refine va_sld hx hb hX hbl hbA hS h_2 d_La_law_358 ?_
  refine zw_lBi (va_runV (As := [.int (xs (nI k + (1 : Int32)).toNatClampNeg), .int (xs (nI k + (2 : Int32)).toNatClampNeg)]) (rest := [.int rA]) ⟨hx, hb, hml, hown, hts⟩ (c_Mo_creep l dC dI cI cJ cG cZ a' H.size gi gl bi bl (xs (nI k + (1 : Int32)).toNatClampNeg) (xs (nI k + (2 : Int32)).toNatClampNeg) _ hw) (cwV 2 hts (zw_goodV kw_752 kw_753 kw_754 kw_9 kw_755) rfl rfl rfl hd_Mo_creep ⟨Nat.le_of_ble_eq_true rfl, Nat.le_of_ble_eq_true rfl⟩) (zw_preVw (ci := 7) (q0 := 0) hK hN hPB (zw_DR hD) rfl rfl) rfl rfl hl.1 rfl (lv_room (Nat.le_of_ble_eq_true rfl)) d_La_law_359 ⟨hnc, hns⟩) hPA hD hS hA (fun rB gi' gl' bi' bl' H locs hw hPA hPB hD hS => ?_)
  obtain ⟨rfl, rfl, hw⟩ := hw
  obtain ⟨hEq, hR⟩ := hw
  refine lv_icmp_eq (tgt := 931) hx hb d_La_law_362 (by decide) (fun c9 => ?_) (fun c9 => absurd hEq c9)
  exact hg fi' fl ai' al gi' gl bi' bl H locs ls hR hPA hPB hD hS hl
theorem d_La_law_367 : decode code 367 = .ok (.aload_n 1, 1) := by decide +kernel
theorem d_La_law_368 : decode code 368 = .ok (.aload_n 0, 1) := by decide +kernel
theorem d_La_law_369 : decode code 369 = .ok (.iload_n 3, 1) := by decide +kernel
theorem d_La_law_370 : decode code 370 = .ok (.iconst 1, 1) := by decide +kernel
theorem d_La_law_371 : decode code 371 = .ok (.iadd, 1) := by decide +kernel
theorem d_La_law_372 : decode code 372 = .ok (.iaload, 1) := by decide +kernel
theorem d_La_law_373 : decode code 373 = .ok (.aload_n 0, 1) := by decide +kernel
theorem d_La_law_374 : decode code 374 = .ok (.iload_n 3, 1) := by decide +kernel
theorem d_La_law_375 : decode code 375 = .ok (.iconst 2, 1) := by decide +kernel
theorem d_La_law_376 : decode code 376 = .ok (.iadd, 1) := by decide +kernel
theorem d_La_law_377 : decode code 377 = .ok (.iaload, 1) := by decide +kernel
theorem d_La_law_378 : decode code 378 = .ok (.invokevirtual 44, 3) := by decide +kernel
theorem d_La_law_381 : decode code 381 = .ok (.aload_n 2, 1) := by decide +kernel
theorem d_La_law_382 : decode code 382 = .ok (.aload_n 0, 1) := by decide +kernel
theorem d_La_law_383 : decode code 383 = .ok (.iload_n 3, 1) := by decide +kernel
theorem d_La_law_384 : decode code 384 = .ok (.iconst 1, 1) := by decide +kernel
theorem d_La_law_385 : decode code 385 = .ok (.iadd, 1) := by decide +kernel
theorem d_La_law_386 : decode code 386 = .ok (.iaload, 1) := by decide +kernel
theorem d_La_law_387 : decode code 387 = .ok (.aload_n 0, 1) := by decide +kernel
theorem d_La_law_388 : decode code 388 = .ok (.iload_n 3, 1) := by decide +kernel
theorem d_La_law_389 : decode code 389 = .ok (.iconst 2, 1) := by decide +kernel
theorem d_La_law_390 : decode code 390 = .ok (.iadd, 1) := by decide +kernel
theorem d_La_law_391 : decode code 391 = .ok (.iaload, 1) := by decide +kernel
theorem d_La_law_392 : decode code 392 = .ok (.invokevirtual 47, 3) := by decide +kernel
theorem d_La_law_395 : decode code 395 = .ok (.if_icmp .eq (536), 3) := by decide +kernel
theorem d_La_law_398 : decode code 398 = .ok (.iconst 0, 1) := by decide +kernel
theorem d_La_law_399 : decode code 399 = .ok (.ireturn, 1) := by decide +kernel
set_option maxHeartbeats 4000000 in
set_option maxRecDepth 100000 in
theorem La_c5 {p : Program} {l : Launch} {e : Env} {s : State} {m : MethodId} {below : List Frame} {meth : Method} {c : Code} {b L : Nat} {xs : Nat → Int32} {dC : Nat → ClassId} {dI : Nat → Nat → Nat} {cI cJ cG cZ : ClassId} {a a' : Nat → Nat} {nc ns : Nat} {Rel : zw_Z → zw_Z → Prop} {k : Nat} (hL : L ≤ 2561) (C0 : lw_At p s m meth c b L xs) (hN : zw_N s) (hK : va_K (dC, dI) vwCl [(cI, .int), (cJ, .long), (cG, .array .int), (cZ, .boolean)] s) (hnc : nc ≤ 600000) (hns : ns ≤ 7302250) (hk : k + 5 ≤ L) (hst : st_after Rel) (hg : La_G p l e s m below meth c b dC dI cI cJ cG cZ a a' nc ns Rel 931 k) : La_G p l e s m below meth c b dC dI cI cJ cG cZ a a' nc ns Rel 367 k := by
  obtain ⟨hx, hb, hr, hml, hown0, hts0, hX, hbl, hlocks, hgv⟩ := id C0
  have hown : s.vm.findClass R_La = some m.cls := hown0
  have hA : ∀ q : Nat, s.heap.size ≤ q → (fun q : Nat => s.heap.size ≤ q) q := fun _ h => h
  have hbA : ¬ (fun q : Nat => s.heap.size ≤ q) b := Nat.not_le.mpr hbl
  have ht : ∀ w ∈ zw_tbl, w.before #[Value.ref b] s = true := fun w h => hts0 w (List.mem_filter.mp h).1
  have hts : ∀ w ∈ (Cond.initialized R_La :: zw_tbl), w.before #[Value.ref b] s = true := fun w h => (List.mem_cons.mp h).elim (fun q => q ▸ ht _ kw_0) (ht w)
  intro fi fl ai al gi gl bi bl H locs ls hR hPA hPB hD hS hl
  have h_1 : vp_in (nI k + (1 : Int32)) L := La_in (j := 1) (by omega) hL
  have h_2 : vp_in (nI k + (2 : Int32)) L := La_in (j := 2) (by omega) hL
  have hw := hst fi fl ai al gi gl bi bl (xs (nI k + (1 : Int32)).toNatClampNeg) (xs (nI k + (2 : Int32)).toNatClampNeg) hR
  refine lv_aload_n hx hb d_La_law_367 rfl (lv_at hl 1 rfl) ?_
  refine lv_aload_n hx hb d_La_law_368 rfl (lv_at hl 0 rfl) ?_
  refine lv_iload_n hx hb d_La_law_369 rfl (lv_at hl 3 rfl) ?_
  refine lv_iconst (v := (1 : Int32)) hx hb d_La_law_370 (by decide) ?_
  refine lv_iadd hx hb d_La_law_371 ?_
  refine va_sld hx hb hX hbl hbA hS h_1 d_La_law_372 ?_
  refine lv_aload_n hx hb d_La_law_373 rfl (lv_at hl 0 rfl) ?_
  refine lv_iload_n hx hb d_La_law_374 rfl (lv_at hl 3 rfl) ?_
  refine lv_iconst (v := (2 : Int32)) hx hb d_La_law_375 (by decide) ?_
  refine lv_iadd hx hb d_La_law_376 ?_
  refine va_sld hx hb hX hbl hbA hS h_2 d_La_law_377 ?_
  refine zw_lAi (va_runV (As := [.int (xs (nI k + (1 : Int32)).toNatClampNeg), .int (xs (nI k + (2 : Int32)).toNatClampNeg)]) (rest := []) ⟨hx, hb, hml, hown, hts⟩ (c_SS_after l dC dI cI cJ cG cZ a H.size fi fl ai al (xs (nI k + (1 : Int32)).toNatClampNeg) (xs (nI k + (2 : Int32)).toNatClampNeg) _ hw) (cwV 2 hts (zw_goodV kw_311 kw_312 kw_313 kw_1 kw_314) rfl rfl rfl hd_SS_after ⟨Nat.le_of_ble_eq_true rfl, Nat.le_of_ble_eq_true rfl⟩) (zw_preVw (ci := 0) (q0 := 0) hK hN hPA (zw_DL hD) rfl rfl) rfl rfl hl.1 rfl (lv_room (Nat.le_of_ble_eq_true rfl)) d_La_law_378 ⟨hnc, hns⟩) hPB hD hS hA (fun rA fi' fl' ai' al' H locs hw hPA hPB hD hS => ?_)
  obtain ⟨rfl, rfl, rfl, hw⟩ := hw
  refine lv_aload_n hx hb d_La_law_381 rfl (lv_at hl 2 rfl) ?_
  refine lv_aload_n hx hb d_La_law_382 rfl (lv_at hl 0 rfl) ?_
  refine lv_iload_n hx hb d_La_law_383 rfl (lv_at hl 3 rfl) ?_
  refine lv_iconst (v := (1 : Int32)) hx hb d_La_law_384 (by decide) ?_
  refine lv_iadd hx hb d_La_law_385 ?_
  refine va_sld hx hb hX hbl hbA hS h_1 d_La_law_386 ?_
  refine lv_aload_n hx hb d_La_law_387 rfl (lv_at hl 0 rfl) ?_
  refine lv_iload_n hx hb d_La_law_388 rfl (lv_at hl 3 rfl) ?_
  refine lv_iconst (v := (2 : Int32)) hx hb d_La_law_389 (by decide) ?_
  refine lv_iadd hx hb d_La_law_390 ?_
  refine va_sld hx hb hX hbl hbA hS h_2 d_La_law_391 ?_
  refine zw_lBi (va_runV (As := [.int (xs (nI k + (1 : Int32)).toNatClampNeg), .int (xs (nI k + (2 : Int32)).toNatClampNeg)]) (rest := [.int rA]) ⟨hx, hb, hml, hown, hts⟩ (c_Mo_after l dC dI cI cJ cG cZ a' H.size gi gl bi bl (xs (nI k + (1 : Int32)).toNatClampNeg) (xs (nI k + (2 : Int32)).toNatClampNeg) _ hw) (cwV 2 hts (zw_goodV kw_758 kw_759 kw_760 kw_9 kw_761) rfl rfl rfl hd_Mo_after ⟨Nat.le_of_ble_eq_true rfl, Nat.le_of_ble_eq_true rfl⟩) (zw_preVw (ci := 7) (q0 := 0) hK hN hPB (zw_DR hD) rfl rfl) rfl rfl hl.1 rfl (lv_room (Nat.le_of_ble_eq_true rfl)) d_La_law_392 ⟨hnc, hns⟩) hPA hD hS hA (fun rB gi' gl' bi' bl' H locs hw hPA hPB hD hS => ?_)
  obtain ⟨rfl, rfl, rfl, hw⟩ := hw
  obtain ⟨hEq, hR⟩ := hw
  refine lv_icmp_eq (tgt := 931) hx hb d_La_law_395 (by decide) (fun c9 => ?_) (fun c9 => absurd hEq c9)
  exact hg fi fl ai' al gi gl bi' bl H locs ls hR hPA hPB hD hS hl
theorem d_La_law_400 : decode code 400 = .ok (.aload_n 1, 1) := by decide +kernel
theorem d_La_law_401 : decode code 401 = .ok (.aload_n 0, 1) := by decide +kernel
theorem d_La_law_402 : decode code 402 = .ok (.iload_n 3, 1) := by decide +kernel
theorem d_La_law_403 : decode code 403 = .ok (.iconst 1, 1) := by decide +kernel
theorem d_La_law_404 : decode code 404 = .ok (.iadd, 1) := by decide +kernel
theorem d_La_law_405 : decode code 405 = .ok (.iaload, 1) := by decide +kernel
theorem d_La_law_406 : decode code 406 = .ok (.invokevirtual 48, 3) := by decide +kernel
theorem d_La_law_409 : decode code 409 = .ok (.aload_n 2, 1) := by decide +kernel
theorem d_La_law_410 : decode code 410 = .ok (.aload_n 0, 1) := by decide +kernel
theorem d_La_law_411 : decode code 411 = .ok (.iload_n 3, 1) := by decide +kernel
theorem d_La_law_412 : decode code 412 = .ok (.iconst 1, 1) := by decide +kernel
theorem d_La_law_413 : decode code 413 = .ok (.iadd, 1) := by decide +kernel
theorem d_La_law_414 : decode code 414 = .ok (.iaload, 1) := by decide +kernel
theorem d_La_law_415 : decode code 415 = .ok (.invokevirtual 52, 3) := by decide +kernel
theorem d_La_law_418 : decode code 418 = .ok (.lcmp, 1) := by decide +kernel
theorem d_La_law_419 : decode code 419 = .ok (.ifCond .eq (512), 3) := by decide +kernel
theorem d_La_law_422 : decode code 422 = .ok (.iconst 0, 1) := by decide +kernel
theorem d_La_law_423 : decode code 423 = .ok (.ireturn, 1) := by decide +kernel
set_option maxHeartbeats 4000000 in
set_option maxRecDepth 100000 in
theorem La_c6 {p : Program} {l : Launch} {e : Env} {s : State} {m : MethodId} {below : List Frame} {meth : Method} {c : Code} {b L : Nat} {xs : Nat → Int32} {dC : Nat → ClassId} {dI : Nat → Nat → Nat} {cI cJ cG cZ : ClassId} {a a' : Nat → Nat} {nc ns : Nat} {Rel : zw_Z → zw_Z → Prop} {k : Nat} (hL : L ≤ 2561) (C0 : lw_At p s m meth c b L xs) (hN : zw_N s) (hK : va_K (dC, dI) vwCl [(cI, .int), (cJ, .long), (cG, .array .int), (cZ, .boolean)] s) (hnc : nc ≤ 600000) (hns : ns ≤ 7302250) (hk : k + 5 ≤ L) (hst : st_stage Rel) (hg : La_G p l e s m below meth c b dC dI cI cJ cG cZ a a' nc ns Rel 931 k) : La_G p l e s m below meth c b dC dI cI cJ cG cZ a a' nc ns Rel 400 k := by
  obtain ⟨hx, hb, hr, hml, hown0, hts0, hX, hbl, hlocks, hgv⟩ := id C0
  have hown : s.vm.findClass R_La = some m.cls := hown0
  have hA : ∀ q : Nat, s.heap.size ≤ q → (fun q : Nat => s.heap.size ≤ q) q := fun _ h => h
  have hbA : ¬ (fun q : Nat => s.heap.size ≤ q) b := Nat.not_le.mpr hbl
  have ht : ∀ w ∈ zw_tbl, w.before #[Value.ref b] s = true := fun w h => hts0 w (List.mem_filter.mp h).1
  have hts : ∀ w ∈ (Cond.initialized R_La :: zw_tbl), w.before #[Value.ref b] s = true := fun w h => (List.mem_cons.mp h).elim (fun q => q ▸ ht _ kw_0) (ht w)
  intro fi fl ai al gi gl bi bl H locs ls hR hPA hPB hD hS hl
  have h_1 : vp_in (nI k + (1 : Int32)) L := La_in (j := 1) (by omega) hL
  have hw := hst fi fl ai al gi gl bi bl (xs (nI k + (1 : Int32)).toNatClampNeg) hR
  refine lv_aload_n hx hb d_La_law_400 rfl (lv_at hl 1 rfl) ?_
  refine lv_aload_n hx hb d_La_law_401 rfl (lv_at hl 0 rfl) ?_
  refine lv_iload_n hx hb d_La_law_402 rfl (lv_at hl 3 rfl) ?_
  refine lv_iconst (v := (1 : Int32)) hx hb d_La_law_403 (by decide) ?_
  refine lv_iadd hx hb d_La_law_404 ?_
  refine va_sld hx hb hX hbl hbA hS h_1 d_La_law_405 ?_
  refine zw_lAl (va_runV (As := [.int (xs (nI k + (1 : Int32)).toNatClampNeg)]) (rest := []) ⟨hx, hb, hml, hown, hts⟩ (c_SS_stage l dC dI cI cJ cG cZ a H.size fi fl ai al (xs (nI k + (1 : Int32)).toNatClampNeg) _ hw) (cwV 1 hts (zw_goodV kw_331 kw_332 kw_333 kw_1 kw_334) rfl rfl rfl hd_SS_stage ⟨Nat.le_of_ble_eq_true rfl, Nat.le_of_ble_eq_true rfl⟩) (zw_preVw (ci := 0) (q0 := 0) hK hN hPA (zw_DL hD) rfl rfl) rfl rfl hl.1 rfl (lv_room (Nat.le_of_ble_eq_true rfl)) d_La_law_406 ⟨hnc, hns⟩) hPB hD hS hA (fun rA fi' fl' ai' al' H locs hw hPA hPB hD hS => ?_)
  obtain ⟨rfl, rfl, hw⟩ := hw
  refine lv_aload_n hx hb d_La_law_409 rfl (lv_at hl 2 rfl) ?_
  refine lv_aload_n hx hb d_La_law_410 rfl (lv_at hl 0 rfl) ?_
  refine lv_iload_n hx hb d_La_law_411 rfl (lv_at hl 3 rfl) ?_
  refine lv_iconst (v := (1 : Int32)) hx hb d_La_law_412 (by decide) ?_
  refine lv_iadd hx hb d_La_law_413 ?_
  refine va_sld hx hb hX hbl hbA hS h_1 d_La_law_414 ?_
  refine zw_lBl (va_runV (As := [.int (xs (nI k + (1 : Int32)).toNatClampNeg)]) (rest := [.long rA]) ⟨hx, hb, hml, hown, hts⟩ (c_Mo_stage l dC dI cI cJ cG cZ a' H.size gi gl bi bl (xs (nI k + (1 : Int32)).toNatClampNeg) _ hw) (cwV 1 hts (zw_goodV kw_770 kw_771 kw_772 kw_9 kw_773) rfl rfl rfl hd_Mo_stage ⟨Nat.le_of_ble_eq_true rfl, Nat.le_of_ble_eq_true rfl⟩) (zw_preVw (ci := 7) (q0 := 0) hK hN hPB (zw_DR hD) rfl rfl) rfl rfl hl.1 rfl (lv_room (Nat.le_of_ble_eq_true rfl)) d_La_law_415 ⟨hnc, hns⟩) hPA hD hS hA (fun rB gi' gl' bi' bl' H locs hw hPA hPB hD hS => ?_)
  obtain ⟨rfl, rfl, hw⟩ := hw
  obtain ⟨hEq, hR⟩ := hw
  refine W.lcmp hx hb d_La_law_418 ?_
  refine lv_if_eq (tgt := 931) hx hb d_La_law_419 (by decide) (fun c9 => ?_) (fun c9 => absurd (zw_lg_eq.mpr hEq) c9)
  exact hg fi' fl ai' al gi' gl bi' bl H locs ls hR hPA hPB hD hS hl
theorem d_La_law_424 : decode code 424 = .ok (.aload_n 1, 1) := by decide +kernel
theorem d_La_law_425 : decode code 425 = .ok (.aload_n 0, 1) := by decide +kernel
theorem d_La_law_426 : decode code 426 = .ok (.iload_n 3, 1) := by decide +kernel
theorem d_La_law_427 : decode code 427 = .ok (.iconst 1, 1) := by decide +kernel
theorem d_La_law_428 : decode code 428 = .ok (.iadd, 1) := by decide +kernel
theorem d_La_law_429 : decode code 429 = .ok (.iaload, 1) := by decide +kernel
theorem d_La_law_430 : decode code 430 = .ok (.invokevirtual 53, 3) := by decide +kernel
theorem d_La_law_433 : decode code 433 = .ok (.aload_n 2, 1) := by decide +kernel
theorem d_La_law_434 : decode code 434 = .ok (.aload_n 0, 1) := by decide +kernel
theorem d_La_law_435 : decode code 435 = .ok (.iload_n 3, 1) := by decide +kernel
theorem d_La_law_436 : decode code 436 = .ok (.iconst 1, 1) := by decide +kernel
theorem d_La_law_437 : decode code 437 = .ok (.iadd, 1) := by decide +kernel
theorem d_La_law_438 : decode code 438 = .ok (.iaload, 1) := by decide +kernel
theorem d_La_law_439 : decode code 439 = .ok (.invokevirtual 57, 3) := by decide +kernel
theorem d_La_law_442 : decode code 442 = .ok (.if_icmp .eq (489), 3) := by decide +kernel
theorem d_La_law_445 : decode code 445 = .ok (.iconst 0, 1) := by decide +kernel
theorem d_La_law_446 : decode code 446 = .ok (.ireturn, 1) := by decide +kernel
set_option maxHeartbeats 4000000 in
set_option maxRecDepth 100000 in
theorem La_c7 {p : Program} {l : Launch} {e : Env} {s : State} {m : MethodId} {below : List Frame} {meth : Method} {c : Code} {b L : Nat} {xs : Nat → Int32} {dC : Nat → ClassId} {dI : Nat → Nat → Nat} {cI cJ cG cZ : ClassId} {a a' : Nat → Nat} {nc ns : Nat} {Rel : zw_Z → zw_Z → Prop} {k : Nat} (hL : L ≤ 2561) (C0 : lw_At p s m meth c b L xs) (hN : zw_N s) (hK : va_K (dC, dI) vwCl [(cI, .int), (cJ, .long), (cG, .array .int), (cZ, .boolean)] s) (hnc : nc ≤ 600000) (hns : ns ≤ 7302250) (hk : k + 5 ≤ L) (hst : st_add Rel) (hg : La_G p l e s m below meth c b dC dI cI cJ cG cZ a a' nc ns Rel 931 k) : La_G p l e s m below meth c b dC dI cI cJ cG cZ a a' nc ns Rel 424 k := by
  obtain ⟨hx, hb, hr, hml, hown0, hts0, hX, hbl, hlocks, hgv⟩ := id C0
  have hown : s.vm.findClass R_La = some m.cls := hown0
  have hA : ∀ q : Nat, s.heap.size ≤ q → (fun q : Nat => s.heap.size ≤ q) q := fun _ h => h
  have hbA : ¬ (fun q : Nat => s.heap.size ≤ q) b := Nat.not_le.mpr hbl
  have ht : ∀ w ∈ zw_tbl, w.before #[Value.ref b] s = true := fun w h => hts0 w (List.mem_filter.mp h).1
  have hts : ∀ w ∈ (Cond.initialized R_La :: zw_tbl), w.before #[Value.ref b] s = true := fun w h => (List.mem_cons.mp h).elim (fun q => q ▸ ht _ kw_0) (ht w)
  intro fi fl ai al gi gl bi bl H locs ls hR hPA hPB hD hS hl
  have h_1 : vp_in (nI k + (1 : Int32)) L := La_in (j := 1) (by omega) hL
  have hw := hst fi fl ai al gi gl bi bl (xs (nI k + (1 : Int32)).toNatClampNeg) hR
  refine lv_aload_n hx hb d_La_law_424 rfl (lv_at hl 1 rfl) ?_
  refine lv_aload_n hx hb d_La_law_425 rfl (lv_at hl 0 rfl) ?_
  refine lv_iload_n hx hb d_La_law_426 rfl (lv_at hl 3 rfl) ?_
  refine lv_iconst (v := (1 : Int32)) hx hb d_La_law_427 (by decide) ?_
  refine lv_iadd hx hb d_La_law_428 ?_
  refine va_sld hx hb hX hbl hbA hS h_1 d_La_law_429 ?_
  refine zw_lAi (va_runV (As := [.int (xs (nI k + (1 : Int32)).toNatClampNeg)]) (rest := []) ⟨hx, hb, hml, hown, hts⟩ (c_SS_add l dC dI cI cJ cG cZ a H.size fi fl ai al (xs (nI k + (1 : Int32)).toNatClampNeg) _ hw) (cwV 1 hts (zw_goodV kw_353 kw_354 kw_355 kw_1 kw_356) rfl rfl rfl hd_SS_add ⟨Nat.le_of_ble_eq_true rfl, Nat.le_of_ble_eq_true rfl⟩) (zw_preVw (ci := 0) (q0 := 0) hK hN hPA (zw_DL hD) rfl rfl) rfl rfl hl.1 rfl (lv_room (Nat.le_of_ble_eq_true rfl)) d_La_law_430 ⟨hnc, hns⟩) hPB hD hS hA (fun rA fi' fl' ai' al' H locs hw hPA hPB hD hS => ?_)
  obtain ⟨rfl, rfl, hw⟩ := hw
  refine lv_aload_n hx hb d_La_law_433 rfl (lv_at hl 2 rfl) ?_
  refine lv_aload_n hx hb d_La_law_434 rfl (lv_at hl 0 rfl) ?_
  refine lv_iload_n hx hb d_La_law_435 rfl (lv_at hl 3 rfl) ?_
  refine lv_iconst (v := (1 : Int32)) hx hb d_La_law_436 (by decide) ?_
  refine lv_iadd hx hb d_La_law_437 ?_
  refine va_sld hx hb hX hbl hbA hS h_1 d_La_law_438 ?_
  refine zw_lBi (va_runV (As := [.int (xs (nI k + (1 : Int32)).toNatClampNeg)]) (rest := [.int rA]) ⟨hx, hb, hml, hown, hts⟩ (c_Mo_add l dC dI cI cJ cG cZ a' H.size gi gl bi bl (xs (nI k + (1 : Int32)).toNatClampNeg) _ hw) (cwV 1 hts (zw_goodV kw_783 kw_784 kw_785 kw_9 kw_786) rfl rfl rfl hd_Mo_add ⟨Nat.le_of_ble_eq_true rfl, Nat.le_of_ble_eq_true rfl⟩) (zw_preVw (ci := 7) (q0 := 0) hK hN hPB (zw_DR hD) rfl rfl) rfl rfl hl.1 rfl (lv_room (Nat.le_of_ble_eq_true rfl)) d_La_law_439 ⟨hnc, hns⟩) hPA hD hS hA (fun rB gi' gl' bi' bl' H locs hw hPA hPB hD hS => ?_)
  obtain ⟨rfl, rfl, hw⟩ := hw
  obtain ⟨hEq, hR⟩ := hw
  refine lv_icmp_eq (tgt := 931) hx hb d_La_law_442 (by decide) (fun c9 => ?_) (fun c9 => absurd hEq c9)
  exact hg fi' fl ai' al gi' gl bi' bl H locs ls hR hPA hPB hD hS hl
