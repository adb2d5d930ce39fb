theorem d_La_law_586 : decode code 586 = .ok (.aload_n 1, 1) := by decide +kernel
theorem d_La_law_587 : decode code 587 = .ok (.aload_n 0, 1) := by decide +kernel
theorem d_La_law_588 : decode code 588 = .ok (.iload_n 3, 1) := by decide +kernel
theorem d_La_law_589 : decode code 589 = .ok (.iconst 1, 1) := by decide +kernel
theorem d_La_law_590 : decode code 590 = .ok (.iadd, 1) := by decide +kernel
theorem d_La_law_591 : decode code 591 = .ok (.iaload, 1) := by decide +kernel
theorem d_La_law_592 : decode code 592 = .ok (.aload_n 0, 1) := by decide +kernel
theorem d_La_law_593 : decode code 593 = .ok (.iload_n 3, 1) := by decide +kernel
theorem d_La_law_594 : decode code 594 = .ok (.iconst 2, 1) := by decide +kernel
theorem d_La_law_595 : decode code 595 = .ok (.iadd, 1) := by decide +kernel
theorem d_La_law_596 : decode code 596 = .ok (.iaload, 1) := by decide +kernel
theorem d_La_law_597 : decode code 597 = .ok (.invokevirtual 76, 3) := by decide +kernel
theorem d_La_law_600 : decode code 600 = .ok (.aload_n 2, 1) := by decide +kernel
theorem d_La_law_601 : decode code 601 = .ok (.aload_n 0, 1) := by decide +kernel
theorem d_La_law_602 : decode code 602 = .ok (.iload_n 3, 1) := by decide +kernel
theorem d_La_law_603 : decode code 603 = .ok (.iconst 1, 1) := by decide +kernel
theorem d_La_law_604 : decode code 604 = .ok (.iadd, 1) := by decide +kernel
theorem d_La_law_605 : decode code 605 = .ok (.iaload, 1) := by decide +kernel
theorem d_La_law_606 : decode code 606 = .ok (.aload_n 0, 1) := by decide +kernel
theorem d_La_law_607 : decode code 607 = .ok (.iload_n 3, 1) := by decide +kernel
theorem d_La_law_608 : decode code 608 = .ok (.iconst 2, 1) := by decide +kernel
theorem d_La_law_609 : decode code 609 = .ok (.iadd, 1) := by decide +kernel
theorem d_La_law_610 : decode code 610 = .ok (.iaload, 1) := by decide +kernel
theorem d_La_law_611 : decode code 611 = .ok (.invokevirtual 79, 3) := by decide +kernel
theorem d_La_law_614 : decode code 614 = .ok (.lcmp, 1) := by decide +kernel
theorem d_La_law_615 : decode code 615 = .ok (.ifCond .eq (316), 3) := by decide +kernel
theorem d_La_law_618 : decode code 618 = .ok (.iconst 0, 1) := by decide +kernel
theorem d_La_law_619 : decode code 619 = .ok (.ireturn, 1) := by decide +kernel
set_option maxHeartbeats 4000000 in
set_option maxRecDepth 100000 in
theorem La_c12 {p : Program} {l : Launch} {e : Env} {s : State} {m : MethodId} {below : List Frame} {meth : Method} {c : Code} {b L : Nat} {xs : Nat → Int32} {dC : Nat → ClassId} {dI : Nat → Nat → Nat} {cI cJ cG cZ : ClassId} {a a' : Nat → Nat} {nc ns : Nat} {Rel : zw_Z → zw_Z → Prop} {k : Nat} (hL : L ≤ 2561) (C0 : lw_At p s m meth c b L xs) (hN : zw_N s) (hK : va_K (dC, dI) vwCl [(cI, .int), (cJ, .long), (cG, .array .int), (cZ, .boolean)] s) (hnc : nc ≤ 600000) (hns : ns ≤ 7302250) (hk : k + 5 ≤ L) (hst : st_of Rel) (hg : La_G p l e s m below meth c b dC dI cI cJ cG cZ a a' nc ns Rel 931 k) : La_G p l e s m below meth c b dC dI cI cJ cG cZ a a' nc ns Rel 586 k := by
  obtain ⟨hx, hb, hr, hml, hown0, hts0, hX, hbl, hlocks, hgv⟩ := id C0
  have hown : s.vm.findClass R_La = some m.cls := hown0
  have hA : ∀ q : Nat, s.heap.size ≤ q → (fun q : Nat => s.heap.size ≤ q) q := fun _ h => h
  have hbA : ¬ (fun q : Nat => s.heap.size ≤ q) b := Nat.not_le.mpr hbl
  have ht : ∀ w ∈ zw_tbl, w.before #[Value.ref b] s = true := fun w h => hts0 w (List.mem_filter.mp h).1
  have hts : ∀ w ∈ (Cond.initialized R_La :: zw_tbl), w.before #[Value.ref b] s = true := fun w h => (List.mem_cons.mp h).elim (fun q => q ▸ ht _ kw_0) (ht w)
  intro fi fl ai al gi gl bi bl H locs ls hR hPA hPB hD hS hl
  have h_1 : vp_in (nI k + (1 : Int32)) L := La_in (j := 1) (by omega) hL
  have h_2 : vp_in (nI k + (2 : Int32)) L := La_in (j := 2) (by omega) hL
  have hw := hst fi fl ai al gi gl bi bl (xs (nI k + (1 : Int32)).toNatClampNeg) (xs (nI k + (2 : Int32)).toNatClampNeg) hR
  refine lv_aload_n hx hb d_La_law_586 rfl (lv_at hl 1 rfl) ?_
  refine lv_aload_n hx hb d_La_law_587 rfl (lv_at hl 0 rfl) ?_
  refine lv_iload_n hx hb d_La_law_588 rfl (lv_at hl 3 rfl) ?_
  refine lv_iconst (v := (1 : Int32)) hx hb d_La_law_589 (by decide) ?_
  refine lv_iadd hx hb d_La_law_590 ?_
  refine va_sld hx hb hX hbl hbA hS h_1 d_La_law_591 ?_
  refine lv_aload_n hx hb d_La_law_592 rfl (lv_at hl 0 rfl) ?_
  refine lv_iload_n hx hb d_La_law_593 rfl (lv_at hl 3 rfl) ?_
  refine lv_iconst (v := (2 : Int32)) hx hb d_La_law_594 (by decide) ?_
  refine lv_iadd hx hb d_La_law_595 ?_
  refine va_sld hx hb hX hbl hbA hS h_2 d_La_law_596 ?_
  refine zw_lAl (va_runV (As := [.int (xs (nI k + (1 : Int32)).toNatClampNeg), .int (xs (nI k + (2 : Int32)).toNatClampNeg)]) (rest := []) ⟨hx, hb, hml, hown, hts⟩ (c_SS_of l dC dI cI cJ cG cZ a H.size fi fl ai al (xs (nI k + (1 : Int32)).toNatClampNeg) (xs (nI k + (2 : Int32)).toNatClampNeg) _ hw) (cwV 2 hts (zw_goodV kw_477 kw_478 kw_479 kw_1 kw_480) rfl rfl rfl hd_SS_of ⟨Nat.le_of_ble_eq_true rfl, Nat.le_of_ble_eq_true rfl⟩) (zw_preVw (ci := 0) (q0 := 0) hK hN hPA (zw_DL hD) rfl rfl) rfl rfl hl.1 rfl (lv_room (Nat.le_of_ble_eq_true rfl)) d_La_law_597 ⟨hnc, hns⟩) hPB hD hS hA (fun rA fi' fl' ai' al' H locs hw hPA hPB hD hS => ?_)
  obtain ⟨rfl, hw⟩ := hw
  refine lv_aload_n hx hb d_La_law_600 rfl (lv_at hl 2 rfl) ?_
  refine lv_aload_n hx hb d_La_law_601 rfl (lv_at hl 0 rfl) ?_
  refine lv_iload_n hx hb d_La_law_602 rfl (lv_at hl 3 rfl) ?_
  refine lv_iconst (v := (1 : Int32)) hx hb d_La_law_603 (by decide) ?_
  refine lv_iadd hx hb d_La_law_604 ?_
  refine va_sld hx hb hX hbl hbA hS h_1 d_La_law_605 ?_
  refine lv_aload_n hx hb d_La_law_606 rfl (lv_at hl 0 rfl) ?_
  refine lv_iload_n hx hb d_La_law_607 rfl (lv_at hl 3 rfl) ?_
  refine lv_iconst (v := (2 : Int32)) hx hb d_La_law_608 (by decide) ?_
  refine lv_iadd hx hb d_La_law_609 ?_
  refine va_sld hx hb hX hbl hbA hS h_2 d_La_law_610 ?_
  refine zw_lBl (va_runV (As := [.int (xs (nI k + (1 : Int32)).toNatClampNeg), .int (xs (nI k + (2 : Int32)).toNatClampNeg)]) (rest := [.long rA]) ⟨hx, hb, hml, hown, hts⟩ (c_Mo_of l dC dI cI cJ cG cZ a' H.size gi gl bi bl (xs (nI k + (1 : Int32)).toNatClampNeg) (xs (nI k + (2 : Int32)).toNatClampNeg) _ hw) (cwV 2 hts (zw_goodV kw_869 kw_870 kw_871 kw_9 kw_872) rfl rfl rfl hd_Mo_of ⟨Nat.le_of_ble_eq_true rfl, Nat.le_of_ble_eq_true rfl⟩) (zw_preVw (ci := 7) (q0 := 0) hK hN hPB (zw_DR hD) rfl rfl) rfl rfl hl.1 rfl (lv_room (Nat.le_of_ble_eq_true rfl)) d_La_law_611 ⟨hnc, hns⟩) hPA hD hS hA (fun rB gi' gl' bi' bl' H locs hw hPA hPB hD hS => ?_)
  obtain ⟨rfl, hw⟩ := hw
  obtain ⟨hEq, hR⟩ := hw
  refine W.lcmp hx hb d_La_law_614 ?_
  refine lv_if_eq (tgt := 931) hx hb d_La_law_615 (by decide) (fun c9 => ?_) (fun c9 => absurd (zw_lg_eq.mpr hEq) c9)
  exact hg fi' fl ai' al' gi' gl bi' bl' H locs ls hR hPA hPB hD hS hl
theorem d_La_law_620 : decode code 620 = .ok (.aload_n 1, 1) := by decide +kernel
theorem d_La_law_621 : decode code 621 = .ok (.aload_n 0, 1) := by decide +kernel
theorem d_La_law_622 : decode code 622 = .ok (.iload_n 3, 1) := by decide +kernel
theorem d_La_law_623 : decode code 623 = .ok (.iconst 1, 1) := by decide +kernel
theorem d_La_law_624 : decode code 624 = .ok (.iadd, 1) := by decide +kernel
theorem d_La_law_625 : decode code 625 = .ok (.iaload, 1) := by decide +kernel
theorem d_La_law_626 : decode code 626 = .ok (.aload_n 0, 1) := by decide +kernel
theorem d_La_law_627 : decode code 627 = .ok (.iload_n 3, 1) := by decide +kernel
theorem d_La_law_628 : decode code 628 = .ok (.iconst 2, 1) := by decide +kernel
theorem d_La_law_629 : decode code 629 = .ok (.iadd, 1) := by decide +kernel
theorem d_La_law_630 : decode code 630 = .ok (.iaload, 1) := by decide +kernel
theorem d_La_law_631 : decode code 631 = .ok (.invokevirtual 80, 3) := by decide +kernel
theorem d_La_law_634 : decode code 634 = .ok (.aload_n 2, 1) := by decide +kernel
theorem d_La_law_635 : decode code 635 = .ok (.aload_n 0, 1) := by decide +kernel
theorem d_La_law_636 : decode code 636 = .ok (.iload_n 3, 1) := by decide +kernel
theorem d_La_law_637 : decode code 637 = .ok (.iconst 1, 1) := by decide +kernel
theorem d_La_law_638 : decode code 638 = .ok (.iadd, 1) := by decide +kernel
theorem d_La_law_639 : decode code 639 = .ok (.iaload, 1) := by decide +kernel
theorem d_La_law_640 : decode code 640 = .ok (.aload_n 0, 1) := by decide +kernel
theorem d_La_law_641 : decode code 641 = .ok (.iload_n 3, 1) := by decide +kernel
theorem d_La_law_642 : decode code 642 = .ok (.iconst 2, 1) := by decide +kernel
theorem d_La_law_643 : decode code 643 = .ok (.iadd, 1) := by decide +kernel
theorem d_La_law_644 : decode code 644 = .ok (.iaload, 1) := by decide +kernel
theorem d_La_law_645 : decode code 645 = .ok (.invokevirtual 83, 3) := by decide +kernel
theorem d_La_law_648 : decode code 648 = .ok (.lcmp, 1) := by decide +kernel
theorem d_La_law_649 : decode code 649 = .ok (.ifCond .eq (282), 3) := by decide +kernel
theorem d_La_law_652 : decode code 652 = .ok (.iconst 0, 1) := by decide +kernel
theorem d_La_law_653 : decode code 653 = .ok (.ireturn, 1) := by decide +kernel
set_option maxHeartbeats 4000000 in
set_option maxRecDepth 100000 in
theorem La_c13 {p : Program} {l : Launch} {e : Env} {s : State} {m : MethodId} {below : List Frame} {meth : Method} {c : Code} {b L : Nat} {xs : Nat → Int32} {dC : Nat → ClassId} {dI : Nat → Nat → Nat} {cI cJ cG cZ : ClassId} {a a' : Nat → Nat} {nc ns : Nat} {Rel : zw_Z → zw_Z → Prop} {k : Nat} (hL : L ≤ 2561) (C0 : lw_At p s m meth c b L xs) (hN : zw_N s) (hK : va_K (dC, dI) vwCl [(cI, .int), (cJ, .long), (cG, .array .int), (cZ, .boolean)] s) (hnc : nc ≤ 600000) (hns : ns ≤ 7302250) (hk : k + 5 ≤ L) (hst : st_carries Rel) (hg : La_G p l e s m below meth c b dC dI cI cJ cG cZ a a' nc ns Rel 931 k) : La_G p l e s m below meth c b dC dI cI cJ cG cZ a a' nc ns Rel 620 k := by
  obtain ⟨hx, hb, hr, hml, hown0, hts0, hX, hbl, hlocks, hgv⟩ := id C0
  have hown : s.vm.findClass R_La = some m.cls := hown0
  have hA : ∀ q : Nat, s.heap.size ≤ q → (fun q : Nat => s.heap.size ≤ q) q := fun _ h => h
  have hbA : ¬ (fun q : Nat => s.heap.size ≤ q) b := Nat.not_le.mpr hbl
  have ht : ∀ w ∈ zw_tbl, w.before #[Value.ref b] s = true := fun w h => hts0 w (List.mem_filter.mp h).1
  have hts : ∀ w ∈ (Cond.initialized R_La :: zw_tbl), w.before #[Value.ref b] s = true := fun w h => (List.mem_cons.mp h).elim (fun q => q ▸ ht _ kw_0) (ht w)
  intro fi fl ai al gi gl bi bl H locs ls hR hPA hPB hD hS hl
  have h_1 : vp_in (nI k + (1 : Int32)) L := La_in (j := 1) (by omega) hL
  have h_2 : vp_in (nI k + (2 : Int32)) L := La_in (j := 2) (by omega) hL
  have hw := hst fi fl ai al gi gl bi bl (xs (nI k + (1 : Int32)).toNatClampNeg) (xs (nI k + (2 : Int32)).toNatClampNeg) hR
  refine lv_aload_n hx hb d_La_law_620 rfl (lv_at hl 1 rfl) ?_
  refine lv_aload_n hx hb d_La_law_621 rfl (lv_at hl 0 rfl) ?_
  refine lv_iload_n hx hb d_La_law_622 rfl (lv_at hl 3 rfl) ?_
  refine lv_iconst (v := (1 : Int32)) hx hb d_La_law_623 (by decide) ?_
  refine lv_iadd hx hb d_La_law_624 ?_
  refine va_sld hx hb hX hbl hbA hS h_1 d_La_law_625 ?_
  refine lv_aload_n hx hb d_La_law_626 rfl (lv_at hl 0 rfl) ?_
  refine lv_iload_n hx hb d_La_law_627 rfl (lv_at hl 3 rfl) ?_
  refine lv_iconst (v := (2 : Int32)) hx hb d_La_law_628 (by decide) ?_
  refine lv_iadd hx hb d_La_law_629 ?_
  refine va_sld hx hb hX hbl hbA hS h_2 d_La_law_630 ?_
  refine zw_lAl (va_runV (As := [.int (xs (nI k + (1 : Int32)).toNatClampNeg), .int (xs (nI k + (2 : Int32)).toNatClampNeg)]) (rest := []) ⟨hx, hb, hml, hown, hts⟩ (c_SS_carries l dC dI cI cJ cG cZ a H.size fi fl ai al (xs (nI k + (1 : Int32)).toNatClampNeg) (xs (nI k + (2 : Int32)).toNatClampNeg) _ hw) (cwV 2 hts (zw_goodV kw_481 kw_482 kw_483 kw_1 kw_484) rfl rfl rfl hd_SS_carries ⟨Nat.le_of_ble_eq_true rfl, Nat.le_of_ble_eq_true rfl⟩) (zw_preVw (ci := 0) (q0 := 0) hK hN hPA (zw_DL hD) rfl rfl) rfl rfl hl.1 rfl (lv_room (Nat.le_of_ble_eq_true rfl)) d_La_law_631 ⟨hnc, hns⟩) hPB hD hS hA (fun rA fi' fl' ai' al' H locs hw hPA hPB hD hS => ?_)
  obtain ⟨rfl, hw⟩ := hw
  refine lv_aload_n hx hb d_La_law_634 rfl (lv_at hl 2 rfl) ?_
  refine lv_aload_n hx hb d_La_law_635 rfl (lv_at hl 0 rfl) ?_
  refine lv_iload_n hx hb d_La_law_636 rfl (lv_at hl 3 rfl) ?_
  refine lv_iconst (v := (1 : Int32)) hx hb d_La_law_637 (by decide) ?_
  refine lv_iadd hx hb d_La_law_638 ?_
  refine va_sld hx hb hX hbl hbA hS h_1 d_La_law_639 ?_
  refine lv_aload_n hx hb d_La_law_640 rfl (lv_at hl 0 rfl) ?_
  refine lv_iload_n hx hb d_La_law_641 rfl (lv_at hl 3 rfl) ?_
  refine lv_iconst (v := (2 : Int32)) hx hb d_La_law_642 (by decide) ?_
  refine lv_iadd hx hb d_La_law_643 ?_
  refine va_sld hx hb hX hbl hbA hS h_2 d_La_law_644 ?_
  refine zw_lBl (va_runV (As := [.int (xs (nI k + (1 : Int32)).toNatClampNeg), .int (xs (nI k + (2 : Int32)).toNatClampNeg)]) (rest := [.long rA]) ⟨hx, hb, hml, hown, hts⟩ (c_Mo_carries l dC dI cI cJ cG cZ a' H.size gi gl bi bl (xs (nI k + (1 : Int32)).toNatClampNeg) (xs (nI k + (2 : Int32)).toNatClampNeg) _ hw) (cwV 2 hts (zw_goodV kw_874 kw_875 kw_876 kw_9 kw_877) rfl rfl rfl hd_Mo_carries ⟨Nat.le_of_ble_eq_true rfl, Nat.le_of_ble_eq_true rfl⟩) (zw_preVw (ci := 7) (q0 := 0) hK hN hPB (zw_DR hD) rfl rfl) rfl rfl hl.1 rfl (lv_room (Nat.le_of_ble_eq_true rfl)) d_La_law_645 ⟨hnc, hns⟩) hPA hD hS hA (fun rB gi' gl' bi' bl' H locs hw hPA hPB hD hS => ?_)
  obtain ⟨rfl, hw⟩ := hw
  obtain ⟨hEq, hR⟩ := hw
  refine W.lcmp hx hb d_La_law_648 ?_
  refine lv_if_eq (tgt := 931) hx hb d_La_law_649 (by decide) (fun c9 => ?_) (fun c9 => absurd (zw_lg_eq.mpr hEq) c9)
  exact hg fi' fl ai' al' gi' gl bi' bl' H locs ls hR hPA hPB hD hS hl
theorem d_La_law_654 : decode code 654 = .ok (.aload_n 1, 1) := by decide +kernel
theorem d_La_law_655 : decode code 655 = .ok (.aload_n 0, 1) := by decide +kernel
theorem d_La_law_656 : decode code 656 = .ok (.iload_n 3, 1) := by decide +kernel
theorem d_La_law_657 : decode code 657 = .ok (.iconst 1, 1) := by decide +kernel
theorem d_La_law_658 : decode code 658 = .ok (.iadd, 1) := by decide +kernel
theorem d_La_law_659 : decode code 659 = .ok (.iaload, 1) := by decide +kernel
theorem d_La_law_660 : decode code 660 = .ok (.aload_n 0, 1) := by decide +kernel
theorem d_La_law_661 : decode code 661 = .ok (.iload_n 3, 1) := by decide +kernel
theorem d_La_law_662 : decode code 662 = .ok (.iconst 2, 1) := by decide +kernel
theorem d_La_law_663 : decode code 663 = .ok (.iadd, 1) := by decide +kernel
theorem d_La_law_664 : decode code 664 = .ok (.iaload, 1) := by decide +kernel
theorem d_La_law_665 : decode code 665 = .ok (.aload_n 0, 1) := by decide +kernel
theorem d_La_law_666 : decode code 666 = .ok (.iload_n 3, 1) := by decide +kernel
theorem d_La_law_667 : decode code 667 = .ok (.iconst 3, 1) := by decide +kernel
theorem d_La_law_668 : decode code 668 = .ok (.iadd, 1) := by decide +kernel
theorem d_La_law_669 : decode code 669 = .ok (.iaload, 1) := by decide +kernel
theorem d_La_law_670 : decode code 670 = .ok (.invokevirtual 84, 3) := by decide +kernel
theorem d_La_law_673 : decode code 673 = .ok (.aload_n 2, 1) := by decide +kernel
theorem d_La_law_674 : decode code 674 = .ok (.aload_n 0, 1) := by decide +kernel
theorem d_La_law_675 : decode code 675 = .ok (.iload_n 3, 1) := by decide +kernel
theorem d_La_law_676 : decode code 676 = .ok (.iconst 1, 1) := by decide +kernel
theorem d_La_law_677 : decode code 677 = .ok (.iadd, 1) := by decide +kernel
theorem d_La_law_678 : decode code 678 = .ok (.iaload, 1) := by decide +kernel
theorem d_La_law_679 : decode code 679 = .ok (.aload_n 0, 1) := by decide +kernel
theorem d_La_law_680 : decode code 680 = .ok (.iload_n 3, 1) := by decide +kernel
theorem d_La_law_681 : decode code 681 = .ok (.iconst 2, 1) := by decide +kernel
theorem d_La_law_682 : decode code 682 = .ok (.iadd, 1) := by decide +kernel
theorem d_La_law_683 : decode code 683 = .ok (.iaload, 1) := by decide +kernel
theorem d_La_law_684 : decode code 684 = .ok (.aload_n 0, 1) := by decide +kernel
theorem d_La_law_685 : decode code 685 = .ok (.iload_n 3, 1) := by decide +kernel
theorem d_La_law_686 : decode code 686 = .ok (.iconst 3, 1) := by decide +kernel
theorem d_La_law_687 : decode code 687 = .ok (.iadd, 1) := by decide +kernel
theorem d_La_law_688 : decode code 688 = .ok (.iaload, 1) := by decide +kernel
theorem d_La_law_689 : decode code 689 = .ok (.invokevirtual 88, 3) := by decide +kernel
theorem d_La_law_692 : decode code 692 = .ok (.lcmp, 1) := by decide +kernel
theorem d_La_law_693 : decode code 693 = .ok (.ifCond .eq (238), 3) := by decide +kernel
theorem d_La_law_696 : decode code 696 = .ok (.iconst 0, 1) := by decide +kernel
theorem d_La_law_697 : decode code 697 = .ok (.ireturn, 1) := by decide +kernel
set_option maxHeartbeats 4000000 in
set_option maxRecDepth 100000 in
theorem La_c14 {p : Program} {l : Launch} {e : Env} {s : State} {m : MethodId} {below : List Frame} {meth : Method} {c : Code} {b L : Nat} {xs : Nat → Int32} {dC : Nat → ClassId} {dI : Nat → Nat → Nat} {cI cJ cG cZ : ClassId} {a a' : Nat → Nat} {nc ns : Nat} {Rel : zw_Z → zw_Z → Prop} {k : Nat} (hL : L ≤ 2561) (C0 : lw_At p s m meth c b L xs) (hN : zw_N s) (hK : va_K (dC, dI) vwCl [(cI, .int), (cJ, .long), (cG, .array .int), (cZ, .boolean)] s) (hnc : nc ≤ 600000) (hns : ns ≤ 7302250) (hk : k + 5 ≤ L) (hst : st_survey Rel) (hg : La_G p l e s m below meth c b dC dI cI cJ cG cZ a a' nc ns Rel 931 k) : La_G p l e s m below meth c b dC dI cI cJ cG cZ a a' nc ns Rel 654 k := by
  obtain ⟨hx, hb, hr, hml, hown0, hts0, hX, hbl, hlocks, hgv⟩ := id C0
  have hown : s.vm.findClass R_La = some m.cls := hown0
  have hA : ∀ q : Nat, s.heap.size ≤ q → (fun q : Nat => s.heap.size ≤ q) q := fun _ h => h
  have hbA : ¬ (fun q : Nat => s.heap.size ≤ q) b := Nat.not_le.mpr hbl
  have ht : ∀ w ∈ zw_tbl, w.before #[Value.ref b] s = true := fun w h => hts0 w (List.mem_filter.mp h).1
  have hts : ∀ w ∈ (Cond.initialized R_La :: zw_tbl), w.before #[Value.ref b] s = true := fun w h => (List.mem_cons.mp h).elim (fun q => q ▸ ht _ kw_0) (ht w)
  intro fi fl ai al gi gl bi bl H locs ls hR hPA hPB hD hS hl
  have h_1 : vp_in (nI k + (1 : Int32)) L := La_in (j := 1) (by omega) hL
  have h_2 : vp_in (nI k + (2 : Int32)) L := La_in (j := 2) (by omega) hL
  have h_3 : vp_in (nI k + (3 : Int32)) L := La_in (j := 3) (by omega) hL
  have hw := hst fi fl ai al gi gl bi bl (xs (nI k + (1 : Int32)).toNatClampNeg) (xs (nI k + (2 : Int32)).toNatClampNeg) (xs (nI k + (3 : Int32)).toNatClampNeg) hR
  refine lv_aload_n hx hb d_La_law_654 rfl (lv_at hl 1 rfl) ?_
  refine lv_aload_n hx hb d_La_law_655 rfl (lv_at hl 0 rfl) ?_
  refine lv_iload_n hx hb d_La_law_656 rfl (lv_at hl 3 rfl) ?_
  refine lv_iconst (v := (1 : Int32)) hx hb d_La_law_657 (by decide) ?_
  refine lv_iadd hx hb d_La_law_658 ?_
  refine va_sld hx hb hX hbl hbA hS h_1 d_La_law_659 ?_
  refine lv_aload_n hx hb d_La_law_660 rfl (lv_at hl 0 rfl) ?_
  refine lv_iload_n hx hb d_La_law_661 rfl (lv_at hl 3 rfl) ?_
  refine lv_iconst (v := (2 : Int32)) hx hb d_La_law_662 (by decide) ?_
  refine lv_iadd hx hb d_La_law_663 ?_
  refine va_sld hx hb hX hbl hbA hS h_2 d_La_law_664 ?_
  refine lv_aload_n hx hb d_La_law_665 rfl (lv_at hl 0 rfl) ?_
  refine lv_iload_n hx hb d_La_law_666 rfl (lv_at hl 3 rfl) ?_
  refine lv_iconst (v := (3 : Int32)) hx hb d_La_law_667 (by decide) ?_
  refine lv_iadd hx hb d_La_law_668 ?_
  refine va_sld hx hb hX hbl hbA hS h_3 d_La_law_669 ?_
  refine zw_lAl (va_runV (As := [.int (xs (nI k + (1 : Int32)).toNatClampNeg), .int (xs (nI k + (2 : Int32)).toNatClampNeg), .int (xs (nI k + (3 : Int32)).toNatClampNeg)]) (rest := []) ⟨hx, hb, hml, hown, hts⟩ (c_SS_survey l dC dI cI cJ cG cZ a H.size fi fl ai al (xs (nI k + (1 : Int32)).toNatClampNeg) (xs (nI k + (2 : Int32)).toNatClampNeg) (xs (nI k + (3 : Int32)).toNatClampNeg) _ hw) (cwV 3 hts (zw_goodV kw_485 kw_486 kw_487 kw_1 kw_488) rfl rfl rfl hd_SS_survey ⟨Nat.le_of_ble_eq_true rfl, Nat.le_of_ble_eq_true rfl⟩) (zw_preVw (ci := 0) (q0 := 0) hK hN hPA (zw_DL hD) rfl rfl) rfl rfl hl.1 rfl (lv_room (Nat.le_of_ble_eq_true rfl)) d_La_law_670 ⟨hnc, hns⟩) hPB hD hS hA (fun rA fi' fl' ai' al' H locs hw hPA hPB hD hS => ?_)
  obtain ⟨rfl, hw⟩ := hw
  refine lv_aload_n hx hb d_La_law_673 rfl (lv_at hl 2 rfl) ?_
  refine lv_aload_n hx hb d_La_law_674 rfl (lv_at hl 0 rfl) ?_
  refine lv_iload_n hx hb d_La_law_675 rfl (lv_at hl 3 rfl) ?_
  refine lv_iconst (v := (1 : Int32)) hx hb d_La_law_676 (by decide) ?_
  refine lv_iadd hx hb d_La_law_677 ?_
  refine va_sld hx hb hX hbl hbA hS h_1 d_La_law_678 ?_
  refine lv_aload_n hx hb d_La_law_679 rfl (lv_at hl 0 rfl) ?_
  refine lv_iload_n hx hb d_La_law_680 rfl (lv_at hl 3 rfl) ?_
  refine lv_iconst (v := (2 : Int32)) hx hb d_La_law_681 (by decide) ?_
  refine lv_iadd hx hb d_La_law_682 ?_
  refine va_sld hx hb hX hbl hbA hS h_2 d_La_law_683 ?_
  refine lv_aload_n hx hb d_La_law_684 rfl (lv_at hl 0 rfl) ?_
  refine lv_iload_n hx hb d_La_law_685 rfl (lv_at hl 3 rfl) ?_
  refine lv_iconst (v := (3 : Int32)) hx hb d_La_law_686 (by decide) ?_
  refine lv_iadd hx hb d_La_law_687 ?_
  refine va_sld hx hb hX hbl hbA hS h_3 d_La_law_688 ?_
  refine zw_lBl (va_runV (As := [.int (xs (nI k + (1 : Int32)).toNatClampNeg), .int (xs (nI k + (2 : Int32)).toNatClampNeg), .int (xs (nI k + (3 : Int32)).toNatClampNeg)]) (rest := [.long rA]) ⟨hx, hb, hml, hown, hts⟩ (c_Mo_survey l dC dI cI cJ cG cZ a' H.size gi gl bi bl (xs (nI k + (1 : Int32)).toNatClampNeg) (xs (nI k + (2 : Int32)).toNatClampNeg) (xs (nI k + (3 : Int32)).toNatClampNeg) _ hw) (cwV 3 hts (zw_goodV kw_882 kw_883 kw_884 kw_9 kw_885) rfl rfl rfl hd_Mo_survey ⟨Nat.le_of_ble_eq_true rfl, Nat.le_of_ble_eq_true rfl⟩) (zw_preVw (ci := 7) (q0 := 0) hK hN hPB (zw_DR hD) rfl rfl) rfl rfl hl.1 rfl (lv_room (Nat.le_of_ble_eq_true rfl)) d_La_law_689 ⟨hnc, hns⟩) hPA hD hS hA (fun rB gi' gl' bi' bl' H locs hw hPA hPB hD hS => ?_)
  obtain ⟨rfl, hw⟩ := hw
  obtain ⟨hEq, hR⟩ := hw
  refine W.lcmp hx hb d_La_law_692 ?_
  refine lv_if_eq (tgt := 931) hx hb d_La_law_693 (by decide) (fun c9 => ?_) (fun c9 => absurd (zw_lg_eq.mpr hEq) c9)
  exact hg fi' fl ai' al' gi' gl bi' bl' H locs ls hR hPA hPB hD hS hl
theorem d_La_law_698 : decode code 698 = .ok (.aload_n 1, 1) := by decide +kernel
theorem d_La_law_699 : decode code 699 = .ok (.aload_n 0, 1) := by decide +kernel
theorem d_La_law_700 : decode code 700 = .ok (.iload_n 3, 1) := by decide +kernel
theorem d_La_law_701 : decode code 701 = .ok (.iconst 1, 1) := by decide +kernel
theorem d_La_law_702 : decode code 702 = .ok (.iadd, 1) := by decide +kernel
theorem d_La_law_703 : decode code 703 = .ok (.iaload, 1) := by decide +kernel
theorem d_La_law_704 : decode code 704 = .ok (.invokevirtual 89, 3) := by decide +kernel
theorem d_La_law_707 : decode code 707 = .ok (.aload_n 2, 1) := by decide +kernel
theorem d_La_law_708 : decode code 708 = .ok (.aload_n 0, 1) := by decide +kernel
theorem d_La_law_709 : decode code 709 = .ok (.iload_n 3, 1) := by decide +kernel
theorem d_La_law_710 : decode code 710 = .ok (.iconst 1, 1) := by decide +kernel
theorem d_La_law_711 : decode code 711 = .ok (.iadd, 1) := by decide +kernel
theorem d_La_law_712 : decode code 712 = .ok (.iaload, 1) := by decide +kernel
theorem d_La_law_713 : decode code 713 = .ok (.invokevirtual 92, 3) := by decide +kernel
theorem d_La_law_716 : decode code 716 = .ok (.if_icmp .eq (215), 3) := by decide +kernel
theorem d_La_law_719 : decode code 719 = .ok (.iconst 0, 1) := by decide +kernel
theorem d_La_law_720 : decode code 720 = .ok (.ireturn, 1) := by decide +kernel
set_option maxHeartbeats 4000000 in
set_option maxRecDepth 100000 in
theorem La_c15 {p : Program} {l : Launch} {e : Env} {s : State} {m : MethodId} {below : List Frame} {meth : Method} {c : Code} {b L : Nat} {xs : Nat → Int32} {dC : Nat → ClassId} {dI : Nat → Nat → Nat} {cI cJ cG cZ : ClassId} {a a' : Nat → Nat} {nc ns : Nat} {Rel : zw_Z → zw_Z → Prop} {k : Nat} (hL : L ≤ 2561) (C0 : lw_At p s m meth c b L xs) (hN : zw_N s) (hK : va_K (dC, dI) vwCl [(cI, .int), (cJ, .long), (cG, .array .int), (cZ, .boolean)] s) (hnc : nc ≤ 600000) (hns : ns ≤ 7302250) (hk : k + 5 ≤ L) (hst : st_most Rel) (hg : La_G p l e s m below meth c b dC dI cI cJ cG cZ a a' nc ns Rel 931 k) : La_G p l e s m below meth c b dC dI cI cJ cG cZ a a' nc ns Rel 698 k := by
  obtain ⟨hx, hb, hr, hml, hown0, hts0, hX, hbl, hlocks, hgv⟩ := id C0
  have hown : s.vm.findClass R_La = some m.cls := hown0
  have hA : ∀ q : Nat, s.heap.size ≤ q → (fun q : Nat => s.heap.size ≤ q) q := fun _ h => h
  have hbA : ¬ (fun q : Nat => s.heap.size ≤ q) b := Nat.not_le.mpr hbl
  have ht : ∀ w ∈ zw_tbl, w.before #[Value.ref b] s = true := fun w h => hts0 w (List.mem_filter.mp h).1
  have hts : ∀ w ∈ (Cond.initialized R_La :: zw_tbl), w.before #[Value.ref b] s = true := fun w h => (List.mem_cons.mp h).elim (fun q => q ▸ ht _ kw_0) (ht w)
  intro fi fl ai al gi gl bi bl H locs ls hR hPA hPB hD hS hl
  have h_1 : vp_in (nI k + (1 : Int32)) L := La_in (j := 1) (by omega) hL
  have hw := hst fi fl ai al gi gl bi bl (xs (nI k + (1 : Int32)).toNatClampNeg) hR
  refine lv_aload_n hx hb d_La_law_698 rfl (lv_at hl 1 rfl) ?_
  refine lv_aload_n hx hb d_La_law_699 rfl (lv_at hl 0 rfl) ?_
  refine lv_iload_n hx hb d_La_law_700 rfl (lv_at hl 3 rfl) ?_
  refine lv_iconst (v := (1 : Int32)) hx hb d_La_law_701 (by decide) ?_
  refine lv_iadd hx hb d_La_law_702 ?_
  refine va_sld hx hb hX hbl hbA hS h_1 d_La_law_703 ?_
  refine zw_lAi (va_runV (As := [.int (xs (nI k + (1 : Int32)).toNatClampNeg)]) (rest := []) ⟨hx, hb, hml, hown, hts⟩ (c_SS_most l dC dI cI cJ cG cZ a H.size fi fl ai al (xs (nI k + (1 : Int32)).toNatClampNeg) _ hw) (cwV 1 hts (zw_goodV kw_504 kw_505 kw_506 kw_1 kw_507) rfl rfl rfl hd_SS_most ⟨Nat.le_of_ble_eq_true rfl, Nat.le_of_ble_eq_true rfl⟩) (zw_preVw (ci := 0) (q0 := 0) hK hN hPA (zw_DL hD) rfl rfl) rfl rfl hl.1 rfl (lv_room (Nat.le_of_ble_eq_true rfl)) d_La_law_704 ⟨hnc, hns⟩) hPB hD hS hA (fun rA fi' fl' ai' al' H locs hw hPA hPB hD hS => ?_)
  obtain ⟨rfl, rfl, rfl, hw⟩ := hw
  refine lv_aload_n hx hb d_La_law_707 rfl (lv_at hl 2 rfl) ?_
  refine lv_aload_n hx hb d_La_law_708 rfl (lv_at hl 0 rfl) ?_
  refine lv_iload_n hx hb d_La_law_709 rfl (lv_at hl 3 rfl) ?_
  refine lv_iconst (v := (1 : Int32)) hx hb d_La_law_710 (by decide) ?_
  refine lv_iadd hx hb d_La_law_711 ?_
  refine va_sld hx hb hX hbl hbA hS h_1 d_La_law_712 ?_
  refine zw_lBi (va_runV (As := [.int (xs (nI k + (1 : Int32)).toNatClampNeg)]) (rest := [.int rA]) ⟨hx, hb, hml, hown, hts⟩ (c_Mo_most l dC dI cI cJ cG cZ a' H.size gi gl bi bl (xs (nI k + (1 : Int32)).toNatClampNeg) _ hw) (cwV 1 hts (zw_goodV kw_888 kw_889 kw_890 kw_9 kw_891) rfl rfl rfl hd_Mo_most ⟨Nat.le_of_ble_eq_true rfl, Nat.le_of_ble_eq_true rfl⟩) (zw_preVw (ci := 7) (q0 := 0) hK hN hPB (zw_DR hD) rfl rfl) rfl rfl hl.1 rfl (lv_room (Nat.le_of_ble_eq_true rfl)) d_La_law_713 ⟨hnc, hns⟩) hPA hD hS hA (fun rB gi' gl' bi' bl' H locs hw hPA hPB hD hS => ?_)
  obtain ⟨rfl, rfl, rfl, hw⟩ := hw
  obtain ⟨hEq, hR⟩ := hw
  refine lv_icmp_eq (tgt := 931) hx hb d_La_law_716 (by decide) (fun c9 => ?_) (fun c9 => absurd hEq c9)
  exact hg fi' fl ai al gi' gl bi bl H locs ls hR hPA hPB hD hS hl
