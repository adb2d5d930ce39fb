theorem d_La_law_447 : decode code 447 = .ok (.aload_n 1, 1) := by decide +kernel
theorem d_La_law_448 : decode code 448 = .ok (.aload_n 0, 1) := by decide +kernel
theorem d_La_law_449 : decode code 449 = .ok (.iload_n 3, 1) := by decide +kernel
theorem d_La_law_450 : decode code 450 = .ok (.iconst 1, 1) := by decide +kernel
theorem d_La_law_451 : decode code 451 = .ok (.iadd, 1) := by decide +kernel
theorem d_La_law_452 : decode code 452 = .ok (.iaload, 1) := by decide +kernel
theorem d_La_law_453 : decode code 453 = .ok (.aload_n 0, 1) := by decide +kernel
theorem d_La_law_454 : decode code 454 = .ok (.iload_n 3, 1) := by decide +kernel
theorem d_La_law_455 : decode code 455 = .ok (.iconst 2, 1) := by decide +kernel
theorem d_La_law_456 : decode code 456 = .ok (.iadd, 1) := by decide +kernel
theorem d_La_law_457 : decode code 457 = .ok (.iaload, 1) := by decide +kernel
theorem d_La_law_458 : decode code 458 = .ok (.invokevirtual 58, 3) := by decide +kernel
theorem d_La_law_461 : decode code 461 = .ok (.aload_n 2, 1) := by decide +kernel
theorem d_La_law_462 : decode code 462 = .ok (.aload_n 0, 1) := by decide +kernel
theorem d_La_law_463 : decode code 463 = .ok (.iload_n 3, 1) := by decide +kernel
theorem d_La_law_464 : decode code 464 = .ok (.iconst 1, 1) := by decide +kernel
theorem d_La_law_465 : decode code 465 = .ok (.iadd, 1) := by decide +kernel
theorem d_La_law_466 : decode code 466 = .ok (.iaload, 1) := by decide +kernel
theorem d_La_law_467 : decode code 467 = .ok (.aload_n 0, 1) := by decide +kernel
theorem d_La_law_468 : decode code 468 = .ok (.iload_n 3, 1) := by decide +kernel
theorem d_La_law_469 : decode code 469 = .ok (.iconst 2, 1) := by decide +kernel
theorem d_La_law_470 : decode code 470 = .ok (.iadd, 1) := by decide +kernel
theorem d_La_law_471 : decode code 471 = .ok (.iaload, 1) := by decide +kernel
theorem d_La_law_472 : decode code 472 = .ok (.invokevirtual 61, 3) := by decide +kernel
theorem d_La_law_475 : decode code 475 = .ok (.if_icmp .eq (456), 3) := by decide +kernel
theorem d_La_law_478 : decode code 478 = .ok (.iconst 0, 1) := by decide +kernel
theorem d_La_law_479 : decode code 479 = .ok (.ireturn, 1) := by decide +kernel
set_option maxHeartbeats 4000000 in
set_option maxRecDepth 100000 in
theorem La_c8 {p : Program} {l : Launch} {e : Env} {s : State} {m : MethodId} {below : List Frame} {meth : Method} {c : Code} {b L : Nat} {xs : Nat → Int32} {dC : Nat → ClassId} {dI : Nat → Nat → Nat} {cI cJ cG cZ : ClassId} {a a' : Nat → Nat} {nc ns : Nat} {Rel : zw_Z → zw_Z → Prop} {k : Nat} (hL : L ≤ 2561) (C0 : lw_At p s m meth c b L xs) (hN : zw_N s) (hK : va_K (dC, dI) vwCl [(cI, .int), (cJ, .long), (cG, .array .int), (cZ, .boolean)] s) (hnc : nc ≤ 600000) (hns : ns ≤ 7302250) (hk : k + 5 ≤ L) (hst : st_load Rel) (hg : La_G p l e s m below meth c b dC dI cI cJ cG cZ a a' nc ns Rel 931 k) : La_G p l e s m below meth c b dC dI cI cJ cG cZ a a' nc ns Rel 447 k := by
  obtain ⟨hx, hb, hr, hml, hown0, hts0, hX, hbl, hlocks, hgv⟩ := id C0
  have hown : s.vm.findClass R_La = some m.cls := hown0
  have hA : ∀ q : Nat, s.heap.size ≤ q → (fun q : Nat => s.heap.size ≤ q) q := fun _ h => h
  have hbA : ¬ (fun q : Nat => s.heap.size ≤ q) b := Nat.not_le.mpr hbl
  have ht : ∀ w ∈ zw_tbl, w.before #[Value.ref b] s = true := fun w h => hts0 w (List.mem_filter.mp h).1
  have hts : ∀ w ∈ (Cond.initialized R_La :: zw_tbl), w.before #[Value.ref b] s = true := fun w h => (List.mem_cons.mp h).elim (fun q => q ▸ ht _ kw_0) (ht w)
  intro fi fl ai al gi gl bi bl H locs ls hR hPA hPB hD hS hl
  have h_1 : vp_in (nI k + (1 : Int32)) L := La_in (j := 1) (by omega) hL
  have h_2 : vp_in (nI k + (2 : Int32)) L := La_in (j := 2) (by omega) hL
  have hw := hst fi fl ai al gi gl bi bl (xs (nI k + (1 : Int32)).toNatClampNeg) (xs (nI k + (2 : Int32)).toNatClampNeg) hR
  refine lv_aload_n hx hb d_La_law_447 rfl (lv_at hl 1 rfl) ?_
  refine lv_aload_n hx hb d_La_law_448 rfl (lv_at hl 0 rfl) ?_
  refine lv_iload_n hx hb d_La_law_449 rfl (lv_at hl 3 rfl) ?_
  refine lv_iconst (v := (1 : Int32)) hx hb d_La_law_450 (by decide) ?_
  refine lv_iadd hx hb d_La_law_451 ?_
  refine va_sld hx hb hX hbl hbA hS h_1 d_La_law_452 ?_
  refine lv_aload_n hx hb d_La_law_453 rfl (lv_at hl 0 rfl) ?_
  refine lv_iload_n hx hb d_La_law_454 rfl (lv_at hl 3 rfl) ?_
  refine lv_iconst (v := (2 : Int32)) hx hb d_La_law_455 (by decide) ?_
  refine lv_iadd hx hb d_La_law_456 ?_
  refine va_sld hx hb hX hbl hbA hS h_2 d_La_law_457 ?_
  refine zw_lAi (va_runV (As := [.int (xs (nI k + (1 : Int32)).toNatClampNeg), .int (xs (nI k + (2 : Int32)).toNatClampNeg)]) (rest := []) ⟨hx, hb, hml, hown, hts⟩ (c_SS_load l dC dI cI cJ cG cZ a H.size fi fl ai al (xs (nI k + (1 : Int32)).toNatClampNeg) (xs (nI k + (2 : Int32)).toNatClampNeg) _ hw) (cwV 2 hts (zw_goodV kw_382 kw_383 kw_384 kw_1 kw_385) rfl rfl rfl hd_SS_load ⟨Nat.le_of_ble_eq_true rfl, Nat.le_of_ble_eq_true rfl⟩) (zw_preVw (ci := 0) (q0 := 0) hK hN hPA (zw_DL hD) rfl rfl) rfl rfl hl.1 rfl (lv_room (Nat.le_of_ble_eq_true rfl)) d_La_law_458 ⟨hnc, hns⟩) hPB hD hS hA (fun rA fi' fl' ai' al' H locs hw hPA hPB hD hS => ?_)
  obtain ⟨rfl, rfl, hw⟩ := hw
  refine lv_aload_n hx hb d_La_law_461 rfl (lv_at hl 2 rfl) ?_
  refine lv_aload_n hx hb d_La_law_462 rfl (lv_at hl 0 rfl) ?_
  refine lv_iload_n hx hb d_La_law_463 rfl (lv_at hl 3 rfl) ?_
  refine lv_iconst (v := (1 : Int32)) hx hb d_La_law_464 (by decide) ?_
  refine lv_iadd hx hb d_La_law_465 ?_
  refine va_sld hx hb hX hbl hbA hS h_1 d_La_law_466 ?_
  refine lv_aload_n hx hb d_La_law_467 rfl (lv_at hl 0 rfl) ?_
  refine lv_iload_n hx hb d_La_law_468 rfl (lv_at hl 3 rfl) ?_
  refine lv_iconst (v := (2 : Int32)) hx hb d_La_law_469 (by decide) ?_
  refine lv_iadd hx hb d_La_law_470 ?_
  refine va_sld hx hb hX hbl hbA hS h_2 d_La_law_471 ?_
  refine zw_lBi (va_runV (As := [.int (xs (nI k + (1 : Int32)).toNatClampNeg), .int (xs (nI k + (2 : Int32)).toNatClampNeg)]) (rest := [.int rA]) ⟨hx, hb, hml, hown, hts⟩ (c_Mo_load l dC dI cI cJ cG cZ a' H.size gi gl bi bl (xs (nI k + (1 : Int32)).toNatClampNeg) (xs (nI k + (2 : Int32)).toNatClampNeg) _ hw) (cwV 2 hts (zw_goodV kw_795 kw_796 kw_797 kw_9 kw_798) rfl rfl rfl hd_Mo_load ⟨Nat.le_of_ble_eq_true rfl, Nat.le_of_ble_eq_true rfl⟩) (zw_preVw (ci := 7) (q0 := 0) hK hN hPB (zw_DR hD) rfl rfl) rfl rfl hl.1 rfl (lv_room (Nat.le_of_ble_eq_true rfl)) d_La_law_472 ⟨hnc, hns⟩) hPA hD hS hA (fun rB gi' gl' bi' bl' H locs hw hPA hPB hD hS => ?_)
  obtain ⟨rfl, rfl, hw⟩ := hw
  obtain ⟨hEq, hR⟩ := hw
  refine lv_icmp_eq (tgt := 931) hx hb d_La_law_475 (by decide) (fun c9 => ?_) (fun c9 => absurd hEq c9)
  exact hg fi' fl ai' al gi' gl bi' bl H locs ls hR hPA hPB hD hS hl
theorem d_La_law_480 : decode code 480 = .ok (.aload_n 1, 1) := by decide +kernel
theorem d_La_law_481 : decode code 481 = .ok (.aload_n 0, 1) := by decide +kernel
theorem d_La_law_482 : decode code 482 = .ok (.iload_n 3, 1) := by decide +kernel
theorem d_La_law_483 : decode code 483 = .ok (.iconst 1, 1) := by decide +kernel
theorem d_La_law_484 : decode code 484 = .ok (.iadd, 1) := by decide +kernel
theorem d_La_law_485 : decode code 485 = .ok (.iaload, 1) := by decide +kernel
theorem d_La_law_486 : decode code 486 = .ok (.aload_n 0, 1) := by decide +kernel
theorem d_La_law_487 : decode code 487 = .ok (.iload_n 3, 1) := by decide +kernel
theorem d_La_law_488 : decode code 488 = .ok (.iconst 2, 1) := by decide +kernel
theorem d_La_law_489 : decode code 489 = .ok (.iadd, 1) := by decide +kernel
theorem d_La_law_490 : decode code 490 = .ok (.iaload, 1) := by decide +kernel
theorem d_La_law_491 : decode code 491 = .ok (.ifCond .eq (7), 3) := by decide +kernel
theorem d_La_law_494 : decode code 494 = .ok (.iconst 1, 1) := by decide +kernel
theorem d_La_law_495 : decode code 495 = .ok (.goto (4), 3) := by decide +kernel
theorem d_La_law_498 : decode code 498 = .ok (.iconst 0, 1) := by decide +kernel
theorem d_La_law_499 : decode code 499 = .ok (.invokevirtual 62, 3) := by decide +kernel
theorem d_La_law_502 : decode code 502 = .ok (.aload_n 2, 1) := by decide +kernel
theorem d_La_law_503 : decode code 503 = .ok (.aload_n 0, 1) := by decide +kernel
theorem d_La_law_504 : decode code 504 = .ok (.iload_n 3, 1) := by decide +kernel
theorem d_La_law_505 : decode code 505 = .ok (.iconst 1, 1) := by decide +kernel
theorem d_La_law_506 : decode code 506 = .ok (.iadd, 1) := by decide +kernel
theorem d_La_law_507 : decode code 507 = .ok (.iaload, 1) := by decide +kernel
theorem d_La_law_508 : decode code 508 = .ok (.aload_n 0, 1) := by decide +kernel
theorem d_La_law_509 : decode code 509 = .ok (.iload_n 3, 1) := by decide +kernel
theorem d_La_law_510 : decode code 510 = .ok (.iconst 2, 1) := by decide +kernel
theorem d_La_law_511 : decode code 511 = .ok (.iadd, 1) := by decide +kernel
theorem d_La_law_512 : decode code 512 = .ok (.iaload, 1) := by decide +kernel
theorem d_La_law_513 : decode code 513 = .ok (.ifCond .eq (7), 3) := by decide +kernel
theorem d_La_law_516 : decode code 516 = .ok (.iconst 1, 1) := by decide +kernel
theorem d_La_law_517 : decode code 517 = .ok (.goto (4), 3) := by decide +kernel
theorem d_La_law_520 : decode code 520 = .ok (.iconst 0, 1) := by decide +kernel
theorem d_La_law_521 : decode code 521 = .ok (.invokevirtual 66, 3) := by decide +kernel
theorem d_La_law_524 : decode code 524 = .ok (.if_icmp .eq (407), 3) := by decide +kernel
theorem d_La_law_527 : decode code 527 = .ok (.iconst 0, 1) := by decide +kernel
theorem d_La_law_528 : decode code 528 = .ok (.ireturn, 1) := by decide +kernel
set_option maxHeartbeats 4000000 in
set_option maxRecDepth 100000 in
theorem La_c9 {p : Program} {l : Launch} {e : Env} {s : State} {m : MethodId} {below : List Frame} {meth : Method} {c : Code} {b L : Nat} {xs : Nat → Int32} {dC : Nat → ClassId} {dI : Nat → Nat → Nat} {cI cJ cG cZ : ClassId} {a a' : Nat → Nat} {nc ns : Nat} {Rel : zw_Z → zw_Z → Prop} {k : Nat} (hL : L ≤ 2561) (C0 : lw_At p s m meth c b L xs) (hN : zw_N s) (hK : va_K (dC, dI) vwCl [(cI, .int), (cJ, .long), (cG, .array .int), (cZ, .boolean)] s) (hnc : nc ≤ 600000) (hns : ns ≤ 7302250) (hk : k + 5 ≤ L) (hst : st_support Rel) (hg : La_G p l e s m below meth c b dC dI cI cJ cG cZ a a' nc ns Rel 931 k) : La_G p l e s m below meth c b dC dI cI cJ cG cZ a a' nc ns Rel 480 k := by
  obtain ⟨hx, hb, hr, hml, hown0, hts0, hX, hbl, hlocks, hgv⟩ := id C0
  have hown : s.vm.findClass R_La = some m.cls := hown0
  have hA : ∀ q : Nat, s.heap.size ≤ q → (fun q : Nat => s.heap.size ≤ q) q := fun _ h => h
  have hbA : ¬ (fun q : Nat => s.heap.size ≤ q) b := Nat.not_le.mpr hbl
  have ht : ∀ w ∈ zw_tbl, w.before #[Value.ref b] s = true := fun w h => hts0 w (List.mem_filter.mp h).1
  have hts : ∀ w ∈ (Cond.initialized R_La :: zw_tbl), w.before #[Value.ref b] s = true := fun w h => (List.mem_cons.mp h).elim (fun q => q ▸ ht _ kw_0) (ht w)
  intro fi fl ai al gi gl bi bl H locs ls hR hPA hPB hD hS hl
  have h_1 : vp_in (nI k + (1 : Int32)) L := La_in (j := 1) (by omega) hL
  have h_2 : vp_in (nI k + (2 : Int32)) L := La_in (j := 2) (by omega) hL
  refine lv_aload_n hx hb d_La_law_480 rfl (lv_at hl 1 rfl) ?_
  refine lv_aload_n hx hb d_La_law_481 rfl (lv_at hl 0 rfl) ?_
  refine lv_iload_n hx hb d_La_law_482 rfl (lv_at hl 3 rfl) ?_
  refine lv_iconst (v := (1 : Int32)) hx hb d_La_law_483 (by decide) ?_
  refine lv_iadd hx hb d_La_law_484 ?_
  refine va_sld hx hb hX hbl hbA hS h_1 d_La_law_485 ?_
  refine lv_aload_n hx hb d_La_law_486 rfl (lv_at hl 0 rfl) ?_
  refine lv_iload_n hx hb d_La_law_487 rfl (lv_at hl 3 rfl) ?_
  refine lv_iconst (v := (2 : Int32)) hx hb d_La_law_488 (by decide) ?_
  refine lv_iadd hx hb d_La_law_489 ?_
  refine va_sld hx hb hX hbl hbA hS h_2 d_La_law_490 ?_
  refine lv_if_eq (tgt := 498) hx hb d_La_law_491 (by decide) (fun c491 => ?_) (fun c491 => ?_)
  · have hw := hst fi fl ai al gi gl bi bl (xs (nI k + (1 : Int32)).toNatClampNeg) (0 : Int32) (Or.inl rfl) hR
    refine lv_iconst (v := (0 : Int32)) hx hb d_La_law_498 (by decide) ?_
    refine zw_lAi (va_runV (As := [.int (xs (nI k + (1 : Int32)).toNatClampNeg), .int (0 : Int32)]) (rest := []) ⟨hx, hb, hml, hown, hts⟩ (c_SS_support l dC dI cI cJ cG cZ a H.size fi fl ai al (xs (nI k + (1 : Int32)).toNatClampNeg) (0 : Int32) _ hw) (cwV 2 hts (zw_goodV kw_388 kw_389 kw_390 kw_1 kw_391) rfl rfl rfl hd_SS_support ⟨Nat.le_of_ble_eq_true rfl, Nat.le_of_ble_eq_true rfl⟩) (zw_preVw (ci := 0) (q0 := 0) hK hN hPA (zw_DL hD) rfl rfl) rfl rfl hl.1 rfl (lv_room (Nat.le_of_ble_eq_true rfl)) d_La_law_499 ⟨hnc, hns⟩) hPB hD hS hA (fun rA fi' fl' ai' al' H locs hw hPA hPB hD hS => ?_)
    obtain ⟨rfl, rfl, hw⟩ := hw
    refine lv_aload_n hx hb d_La_law_502 rfl (lv_at hl 2 rfl) ?_
    refine lv_aload_n hx hb d_La_law_503 rfl (lv_at hl 0 rfl) ?_
    refine lv_iload_n hx hb d_La_law_504 rfl (lv_at hl 3 rfl) ?_
    refine lv_iconst (v := (1 : Int32)) hx hb d_La_law_505 (by decide) ?_
    refine lv_iadd hx hb d_La_law_506 ?_
    refine va_sld hx hb hX hbl hbA hS h_1 d_La_law_507 ?_
    refine lv_aload_n hx hb d_La_law_508 rfl (lv_at hl 0 rfl) ?_
    refine lv_iload_n hx hb d_La_law_509 rfl (lv_at hl 3 rfl) ?_
    refine lv_iconst (v := (2 : Int32)) hx hb d_La_law_510 (by decide) ?_
    refine lv_iadd hx hb d_La_law_511 ?_
    refine va_sld hx hb hX hbl hbA hS h_2 d_La_law_512 ?_
    refine lv_if_eq (tgt := 520) hx hb d_La_law_513 (by decide) (fun c513 => ?_) (fun c513 => ?_)
    · refine lv_iconst (v := (0 : Int32)) hx hb d_La_law_520 (by decide) ?_
      refine zw_lBi (va_runV (As := [.int (xs (nI k + (1 : Int32)).toNatClampNeg), .int (0 : Int32)]) (rest := [.int rA]) ⟨hx, hb, hml, hown, hts⟩ (c_Mo_support l dC dI cI cJ cG cZ a' H.size gi gl bi bl (xs (nI k + (1 : Int32)).toNatClampNeg) (0 : Int32) _ hw) (cwV 2 hts (zw_goodV kw_799 kw_800 kw_801 kw_9 kw_802) rfl rfl rfl hd_Mo_support ⟨Nat.le_of_ble_eq_true rfl, Nat.le_of_ble_eq_true rfl⟩) (zw_preVw (ci := 7) (q0 := 0) hK hN hPB (zw_DR hD) rfl rfl) rfl rfl hl.1 rfl (lv_room (Nat.le_of_ble_eq_true rfl)) d_La_law_521 ⟨hnc, hns⟩) hPA hD hS hA (fun rB gi' gl' bi' bl' H locs hw hPA hPB hD hS => ?_)
      obtain ⟨rfl, rfl, hw⟩ := hw
      obtain ⟨hEq, hR⟩ := hw
      refine lv_icmp_eq (tgt := 931) hx hb d_La_law_524 (by decide) (fun c9 => ?_) (fun c9 => absurd hEq c9)
      exact hg fi' fl ai' al gi' gl bi' bl H locs ls hR hPA hPB hD hS hl
    · exact absurd c491 c513
  · have hw := hst fi fl ai al gi gl bi bl (xs (nI k + (1 : Int32)).toNatClampNeg) (1 : Int32) (Or.inr rfl) hR
    refine lv_iconst (v := (1 : Int32)) hx hb d_La_law_494 (by decide) ?_
    refine lv_goto (tgt := 499) hx hb d_La_law_495 (by decide) ?_
    refine zw_lAi (va_runV (As := [.int (xs (nI k + (1 : Int32)).toNatClampNeg), .int (1 : Int32)]) (rest := []) ⟨hx, hb, hml, hown, hts⟩ (c_SS_support l dC dI cI cJ cG cZ a H.size fi fl ai al (xs (nI k + (1 : Int32)).toNatClampNeg) (1 : Int32) _ hw) (cwV 2 hts (zw_goodV kw_388 kw_389 kw_390 kw_1 kw_391) rfl rfl rfl hd_SS_support ⟨Nat.le_of_ble_eq_true rfl, Nat.le_of_ble_eq_true rfl⟩) (zw_preVw (ci := 0) (q0 := 0) hK hN hPA (zw_DL hD) rfl rfl) rfl rfl hl.1 rfl (lv_room (Nat.le_of_ble_eq_true rfl)) d_La_law_499 ⟨hnc, hns⟩) hPB hD hS hA (fun rA fi' fl' ai' al' H locs hw hPA hPB hD hS => ?_)
    obtain ⟨rfl, rfl, hw⟩ := hw
    refine lv_aload_n hx hb d_La_law_502 rfl (lv_at hl 2 rfl) ?_
    refine lv_aload_n hx hb d_La_law_503 rfl (lv_at hl 0 rfl) ?_
    refine lv_iload_n hx hb d_La_law_504 rfl (lv_at hl 3 rfl) ?_
    refine lv_iconst (v := (1 : Int32)) hx hb d_La_law_505 (by decide) ?_
    refine lv_iadd hx hb d_La_law_506 ?_
    refine va_sld hx hb hX hbl hbA hS h_1 d_La_law_507 ?_
    refine lv_aload_n hx hb d_La_law_508 rfl (lv_at hl 0 rfl) ?_
    refine lv_iload_n hx hb d_La_law_509 rfl (lv_at hl 3 rfl) ?_
    refine lv_iconst (v := (2 : Int32)) hx hb d_La_law_510 (by decide) ?_
    refine lv_iadd hx hb d_La_law_511 ?_
    refine va_sld hx hb hX hbl hbA hS h_2 d_La_law_512 ?_
    refine lv_if_eq (tgt := 520) hx hb d_La_law_513 (by decide) (fun c513 => ?_) (fun c513 => ?_)
    · exact absurd c513 c491
    · refine lv_iconst (v := (1 : Int32)) hx hb d_La_law_516 (by decide) ?_
      refine lv_goto (tgt := 521) hx hb d_La_law_517 (by decide) ?_
      refine zw_lBi (va_runV (As := [.int (xs (nI k + (1 : Int32)).toNatClampNeg), .int (1 : Int32)]) (rest := [.int rA]) ⟨hx, hb, hml, hown, hts⟩ (c_Mo_support l dC dI cI cJ cG cZ a' H.size gi gl bi bl (xs (nI k + (1 : Int32)).toNatClampNeg) (1 : Int32) _ hw) (cwV 2 hts (zw_goodV kw_799 kw_800 kw_801 kw_9 kw_802) rfl rfl rfl hd_Mo_support ⟨Nat.le_of_ble_eq_true rfl, Nat.le_of_ble_eq_true rfl⟩) (zw_preVw (ci := 7) (q0 := 0) hK hN hPB (zw_DR hD) rfl rfl) rfl rfl hl.1 rfl (lv_room (Nat.le_of_ble_eq_true rfl)) d_La_law_521 ⟨hnc, hns⟩) hPA hD hS hA (fun rB gi' gl' bi' bl' H locs hw hPA hPB hD hS => ?_)
      obtain ⟨rfl, rfl, hw⟩ := hw
      obtain ⟨hEq, hR⟩ := hw
      refine lv_icmp_eq (tgt := 931) hx hb d_La_law_524 (by decide) (fun c9 => ?_) (fun c9 => absurd hEq c9)
      exact hg fi' fl ai' al gi' gl bi' bl H locs ls hR hPA hPB hD hS hl
theorem d_La_law_529 : decode code 529 = .ok (.aload_n 1, 1) := by decide +kernel
theorem d_La_law_530 : decode code 530 = .ok (.aload_n 0, 1) := by decide +kernel
theorem d_La_law_531 : decode code 531 = .ok (.iload_n 3, 1) := by decide +kernel
theorem d_La_law_532 : decode code 532 = .ok (.iconst 1, 1) := by decide +kernel
theorem d_La_law_533 : decode code 533 = .ok (.iadd, 1) := by decide +kernel
theorem d_La_law_534 : decode code 534 = .ok (.iaload, 1) := by decide +kernel
theorem d_La_law_535 : decode code 535 = .ok (.invokevirtual 67, 3) := by decide +kernel
theorem d_La_law_538 : decode code 538 = .ok (.aload_n 2, 1) := by decide +kernel
theorem d_La_law_539 : decode code 539 = .ok (.aload_n 0, 1) := by decide +kernel
theorem d_La_law_540 : decode code 540 = .ok (.iload_n 3, 1) := by decide +kernel
theorem d_La_law_541 : decode code 541 = .ok (.iconst 1, 1) := by decide +kernel
theorem d_La_law_542 : decode code 542 = .ok (.iadd, 1) := by decide +kernel
theorem d_La_law_543 : decode code 543 = .ok (.iaload, 1) := by decide +kernel
theorem d_La_law_544 : decode code 544 = .ok (.invokevirtual 70, 3) := by decide +kernel
theorem d_La_law_547 : decode code 547 = .ok (.if_icmp .eq (384), 3) := by decide +kernel
theorem d_La_law_550 : decode code 550 = .ok (.iconst 0, 1) := by decide +kernel
theorem d_La_law_551 : decode code 551 = .ok (.ireturn, 1) := by decide +kernel
set_option maxHeartbeats 4000000 in
set_option maxRecDepth 100000 in
theorem La_c10 {p : Program} {l : Launch} {e : Env} {s : State} {m : MethodId} {below : List Frame} {meth : Method} {c : Code} {b L : Nat} {xs : Nat → Int32} {dC : Nat → ClassId} {dI : Nat → Nat → Nat} {cI cJ cG cZ : ClassId} {a a' : Nat → Nat} {nc ns : Nat} {Rel : zw_Z → zw_Z → Prop} {k : Nat} (hL : L ≤ 2561) (C0 : lw_At p s m meth c b L xs) (hN : zw_N s) (hK : va_K (dC, dI) vwCl [(cI, .int), (cJ, .long), (cG, .array .int), (cZ, .boolean)] s) (hnc : nc ≤ 600000) (hns : ns ≤ 7302250) (hk : k + 5 ≤ L) (hst : st_end Rel) (hg : La_G p l e s m below meth c b dC dI cI cJ cG cZ a a' nc ns Rel 931 k) : La_G p l e s m below meth c b dC dI cI cJ cG cZ a a' nc ns Rel 529 k := by
  obtain ⟨hx, hb, hr, hml, hown0, hts0, hX, hbl, hlocks, hgv⟩ := id C0
  have hown : s.vm.findClass R_La = some m.cls := hown0
  have hA : ∀ q : Nat, s.heap.size ≤ q → (fun q : Nat => s.heap.size ≤ q) q := fun _ h => h
  have hbA : ¬ (fun q : Nat => s.heap.size ≤ q) b := Nat.not_le.mpr hbl
  have ht : ∀ w ∈ zw_tbl, w.before #[Value.ref b] s = true := fun w h => hts0 w (List.mem_filter.mp h).1
  have hts : ∀ w ∈ (Cond.initialized R_La :: zw_tbl), w.before #[Value.ref b] s = true := fun w h => (List.mem_cons.mp h).elim (fun q => q ▸ ht _ kw_0) (ht w)
  intro fi fl ai al gi gl bi bl H locs ls hR hPA hPB hD hS hl
  have h_1 : vp_in (nI k + (1 : Int32)) L := La_in (j := 1) (by omega) hL
  have hw := hst fi fl ai al gi gl bi bl (xs (nI k + (1 : Int32)).toNatClampNeg) hR
  refine lv_aload_n hx hb d_La_law_529 rfl (lv_at hl 1 rfl) ?_
  refine lv_aload_n hx hb d_La_law_530 rfl (lv_at hl 0 rfl) ?_
  refine lv_iload_n hx hb d_La_law_531 rfl (lv_at hl 3 rfl) ?_
  refine lv_iconst (v := (1 : Int32)) hx hb d_La_law_532 (by decide) ?_
  refine lv_iadd hx hb d_La_law_533 ?_
  refine va_sld hx hb hX hbl hbA hS h_1 d_La_law_534 ?_
  refine zw_lAi (va_runV (As := [.int (xs (nI k + (1 : Int32)).toNatClampNeg)]) (rest := []) ⟨hx, hb, hml, hown, hts⟩ (c_SS_end l dC dI cI cJ cG cZ a H.size fi fl ai al (xs (nI k + (1 : Int32)).toNatClampNeg) _ hw) (cwV 1 hts (zw_goodV kw_397 kw_398 kw_399 kw_1 kw_400) rfl rfl rfl hd_SS_end ⟨Nat.le_of_ble_eq_true rfl, Nat.le_of_ble_eq_true rfl⟩) (zw_preVw (ci := 0) (q0 := 0) hK hN hPA (zw_DL hD) rfl rfl) rfl rfl hl.1 rfl (lv_room (Nat.le_of_ble_eq_true rfl)) d_La_law_535 ⟨hnc, hns⟩) hPB hD hS hA (fun rA fi' fl' ai' al' H locs hw hPA hPB hD hS => ?_)
  obtain ⟨rfl, rfl, rfl, hw⟩ := hw
  refine lv_aload_n hx hb d_La_law_538 rfl (lv_at hl 2 rfl) ?_
  refine lv_aload_n hx hb d_La_law_539 rfl (lv_at hl 0 rfl) ?_
  refine lv_iload_n hx hb d_La_law_540 rfl (lv_at hl 3 rfl) ?_
  refine lv_iconst (v := (1 : Int32)) hx hb d_La_law_541 (by decide) ?_
  refine lv_iadd hx hb d_La_law_542 ?_
  refine va_sld hx hb hX hbl hbA hS h_1 d_La_law_543 ?_
  refine zw_lBi (va_runV (As := [.int (xs (nI k + (1 : Int32)).toNatClampNeg)]) (rest := [.int rA]) ⟨hx, hb, hml, hown, hts⟩ (c_Mo_end l dC dI cI cJ cG cZ a' H.size gi gl bi bl (xs (nI k + (1 : Int32)).toNatClampNeg) _ hw) (cwV 1 hts (zw_goodV kw_807 kw_808 kw_809 kw_9 kw_810) rfl rfl rfl hd_Mo_end ⟨Nat.le_of_ble_eq_true rfl, Nat.le_of_ble_eq_true rfl⟩) (zw_preVw (ci := 7) (q0 := 0) hK hN hPB (zw_DR hD) rfl rfl) rfl rfl hl.1 rfl (lv_room (Nat.le_of_ble_eq_true rfl)) d_La_law_544 ⟨hnc, hns⟩) hPA hD hS hA (fun rB gi' gl' bi' bl' H locs hw hPA hPB hD hS => ?_)
  obtain ⟨rfl, rfl, rfl, hw⟩ := hw
  obtain ⟨hEq, hR⟩ := hw
  refine lv_icmp_eq (tgt := 931) hx hb d_La_law_547 (by decide) (fun c9 => ?_) (fun c9 => absurd hEq c9)
  exact hg fi' fl ai al gi' gl bi bl H locs ls hR hPA hPB hD hS hl
theorem d_La_law_552 : decode code 552 = .ok (.aload_n 1, 1) := by decide +kernel
theorem d_La_law_553 : decode code 553 = .ok (.aload_n 0, 1) := by decide +kernel
theorem d_La_law_554 : decode code 554 = .ok (.iload_n 3, 1) := by decide +kernel
theorem d_La_law_555 : decode code 555 = .ok (.iconst 1, 1) := by decide +kernel
theorem d_La_law_556 : decode code 556 = .ok (.iadd, 1) := by decide +kernel
theorem d_La_law_557 : decode code 557 = .ok (.iaload, 1) := by decide +kernel
theorem d_La_law_558 : decode code 558 = .ok (.aload_n 0, 1) := by decide +kernel
theorem d_La_law_559 : decode code 559 = .ok (.iload_n 3, 1) := by decide +kernel
theorem d_La_law_560 : decode code 560 = .ok (.iconst 2, 1) := by decide +kernel
theorem d_La_law_561 : decode code 561 = .ok (.iadd, 1) := by decide +kernel
theorem d_La_law_562 : decode code 562 = .ok (.iaload, 1) := by decide +kernel
theorem d_La_law_563 : decode code 563 = .ok (.invokevirtual 71, 3) := by decide +kernel
theorem d_La_law_566 : decode code 566 = .ok (.aload_n 2, 1) := by decide +kernel
theorem d_La_law_567 : decode code 567 = .ok (.aload_n 0, 1) := by decide +kernel
theorem d_La_law_568 : decode code 568 = .ok (.iload_n 3, 1) := by decide +kernel
theorem d_La_law_569 : decode code 569 = .ok (.iconst 1, 1) := by decide +kernel
theorem d_La_law_570 : decode code 570 = .ok (.iadd, 1) := by decide +kernel
theorem d_La_law_571 : decode code 571 = .ok (.iaload, 1) := by decide +kernel
theorem d_La_law_572 : decode code 572 = .ok (.aload_n 0, 1) := by decide +kernel
theorem d_La_law_573 : decode code 573 = .ok (.iload_n 3, 1) := by decide +kernel
theorem d_La_law_574 : decode code 574 = .ok (.iconst 2, 1) := by decide +kernel
theorem d_La_law_575 : decode code 575 = .ok (.iadd, 1) := by decide +kernel
theorem d_La_law_576 : decode code 576 = .ok (.iaload, 1) := by decide +kernel
theorem d_La_law_577 : decode code 577 = .ok (.invokevirtual 75, 3) := by decide +kernel
theorem d_La_law_580 : decode code 580 = .ok (.lcmp, 1) := by decide +kernel
theorem d_La_law_581 : decode code 581 = .ok (.ifCond .eq (350), 3) := by decide +kernel
theorem d_La_law_584 : decode code 584 = .ok (.iconst 0, 1) := by decide +kernel
theorem d_La_law_585 : decode code 585 = .ok (.ireturn, 1) := by decide +kernel
set_option maxHeartbeats 4000000 in
set_option maxRecDepth 100000 in
theorem La_c11 {p : Program} {l : Launch} {e : Env} {s : State} {m : MethodId} {below : List Frame} {meth : Method} {c : Code} {b L : Nat} {xs : Nat → Int32} {dC : Nat → ClassId} {dI : Nat → Nat → Nat} {cI cJ cG cZ : ClassId} {a a' : Nat → Nat} {nc ns : Nat} {Rel : zw_Z → zw_Z → Prop} {k : Nat} (hL : L ≤ 2561) (C0 : lw_At p s m meth c b L xs) (hN : zw_N s) (hK : va_K (dC, dI) vwCl [(cI, .int), (cJ, .long), (cG, .array .int), (cZ, .boolean)] s) (hnc : nc ≤ 600000) (hns : ns ≤ 7302250) (hk : k + 5 ≤ L) (hst : st_level Rel) (hg : La_G p l e s m below meth c b dC dI cI cJ cG cZ a a' nc ns Rel 931 k) : La_G p l e s m below meth c b dC dI cI cJ cG cZ a a' nc ns Rel 552 k := by
  obtain ⟨hx, hb, hr, hml, hown0, hts0, hX, hbl, hlocks, hgv⟩ := id C0
  have hown : s.vm.findClass R_La = some m.cls := hown0
  have hA : ∀ q : Nat, s.heap.size ≤ q → (fun q : Nat => s.heap.size ≤ q) q := fun _ h => h
  have hbA : ¬ (fun q : Nat => s.heap.size ≤ q) b := Nat.not_le.mpr hbl
  have ht : ∀ w ∈ zw_tbl, w.before #[Value.ref b] s = true := fun w h => hts0 w (List.mem_filter.mp h).1
  have hts : ∀ w ∈ (Cond.initialized R_La :: zw_tbl), w.before #[Value.ref b] s = true := fun w h => (List.mem_cons.mp h).elim (fun q => q ▸ ht _ kw_0) (ht w)
  intro fi fl ai al gi gl bi bl H locs ls hR hPA hPB hD hS hl
  have h_1 : vp_in (nI k + (1 : Int32)) L := La_in (j := 1) (by omega) hL
  have h_2 : vp_in (nI k + (2 : Int32)) L := La_in (j := 2) (by omega) hL
  have hw := hst fi fl ai al gi gl bi bl (xs (nI k + (1 : Int32)).toNatClampNeg) (xs (nI k + (2 : Int32)).toNatClampNeg) hR
  refine lv_aload_n hx hb d_La_law_552 rfl (lv_at hl 1 rfl) ?_
  refine lv_aload_n hx hb d_La_law_553 rfl (lv_at hl 0 rfl) ?_
  refine lv_iload_n hx hb d_La_law_554 rfl (lv_at hl 3 rfl) ?_
  refine lv_iconst (v := (1 : Int32)) hx hb d_La_law_555 (by decide) ?_
  refine lv_iadd hx hb d_La_law_556 ?_
  refine va_sld hx hb hX hbl hbA hS h_1 d_La_law_557 ?_
  refine lv_aload_n hx hb d_La_law_558 rfl (lv_at hl 0 rfl) ?_
  refine lv_iload_n hx hb d_La_law_559 rfl (lv_at hl 3 rfl) ?_
  refine lv_iconst (v := (2 : Int32)) hx hb d_La_law_560 (by decide) ?_
  refine lv_iadd hx hb d_La_law_561 ?_
  refine va_sld hx hb hX hbl hbA hS h_2 d_La_law_562 ?_
  refine zw_lAl (va_runV (As := [.int (xs (nI k + (1 : Int32)).toNatClampNeg), .int (xs (nI k + (2 : Int32)).toNatClampNeg)]) (rest := []) ⟨hx, hb, hml, hown, hts⟩ (c_SS_level l dC dI cI cJ cG cZ a H.size fi fl ai al (xs (nI k + (1 : Int32)).toNatClampNeg) (xs (nI k + (2 : Int32)).toNatClampNeg) _ hw) (cwV 2 hts (zw_goodV kw_403 kw_404 kw_405 kw_1 kw_406) rfl rfl rfl hd_SS_level ⟨Nat.le_of_ble_eq_true rfl, Nat.le_of_ble_eq_true rfl⟩) (zw_preVw (ci := 0) (q0 := 0) hK hN hPA (zw_DL hD) rfl rfl) rfl rfl hl.1 rfl (lv_room (Nat.le_of_ble_eq_true rfl)) d_La_law_563 ⟨hnc, hns⟩) hPB hD hS hA (fun rA fi' fl' ai' al' H locs hw hPA hPB hD hS => ?_)
  obtain ⟨rfl, hw⟩ := hw
  refine lv_aload_n hx hb d_La_law_566 rfl (lv_at hl 2 rfl) ?_
  refine lv_aload_n hx hb d_La_law_567 rfl (lv_at hl 0 rfl) ?_
  refine lv_iload_n hx hb d_La_law_568 rfl (lv_at hl 3 rfl) ?_
  refine lv_iconst (v := (1 : Int32)) hx hb d_La_law_569 (by decide) ?_
  refine lv_iadd hx hb d_La_law_570 ?_
  refine va_sld hx hb hX hbl hbA hS h_1 d_La_law_571 ?_
  refine lv_aload_n hx hb d_La_law_572 rfl (lv_at hl 0 rfl) ?_
  refine lv_iload_n hx hb d_La_law_573 rfl (lv_at hl 3 rfl) ?_
  refine lv_iconst (v := (2 : Int32)) hx hb d_La_law_574 (by decide) ?_
  refine lv_iadd hx hb d_La_law_575 ?_
  refine va_sld hx hb hX hbl hbA hS h_2 d_La_law_576 ?_
  refine zw_lBl (va_runV (As := [.int (xs (nI k + (1 : Int32)).toNatClampNeg), .int (xs (nI k + (2 : Int32)).toNatClampNeg)]) (rest := [.long rA]) ⟨hx, hb, hml, hown, hts⟩ (c_Mo_level l dC dI cI cJ cG cZ a' H.size gi gl bi bl (xs (nI k + (1 : Int32)).toNatClampNeg) (xs (nI k + (2 : Int32)).toNatClampNeg) _ hw) (cwV 2 hts (zw_goodV kw_812 kw_813 kw_814 kw_9 kw_815) rfl rfl rfl hd_Mo_level ⟨Nat.le_of_ble_eq_true rfl, Nat.le_of_ble_eq_true rfl⟩) (zw_preVw (ci := 7) (q0 := 0) hK hN hPB (zw_DR hD) rfl rfl) rfl rfl hl.1 rfl (lv_room (Nat.le_of_ble_eq_true rfl)) d_La_law_577 ⟨hnc, hns⟩) hPA hD hS hA (fun rB gi' gl' bi' bl' H locs hw hPA hPB hD hS => ?_)
  obtain ⟨rfl, hw⟩ := hw
  obtain ⟨hEq, hR⟩ := hw
  refine W.lcmp hx hb d_La_law_580 ?_
  refine lv_if_eq (tgt := 931) hx hb d_La_law_581 (by decide) (fun c9 => ?_) (fun c9 => absurd (zw_lg_eq.mpr hEq) c9)
  exact hg fi' fl ai' al' gi' gl bi' bl' H locs ls hR hPA hPB hD hS hl
