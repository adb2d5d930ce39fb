theorem d_La_law_721 : decode code 721 = .ok (.aload_n 1, 1) := by decide +kernel
theorem d_La_law_722 : decode code 722 = .ok (.aload_n 0, 1) := by decide +kernel
theorem d_La_law_723 : decode code 723 = .ok (.iload_n 3, 1) := by decide +kernel
theorem d_La_law_724 : decode code 724 = .ok (.iconst 1, 1) := by decide +kernel
theorem d_La_law_725 : decode code 725 = .ok (.iadd, 1) := by decide +kernel
theorem d_La_law_726 : decode code 726 = .ok (.iaload, 1) := by decide +kernel
theorem d_La_law_727 : decode code 727 = .ok (.aload_n 0, 1) := by decide +kernel
theorem d_La_law_728 : decode code 728 = .ok (.iload_n 3, 1) := by decide +kernel
theorem d_La_law_729 : decode code 729 = .ok (.iconst 2, 1) := by decide +kernel
theorem d_La_law_730 : decode code 730 = .ok (.iadd, 1) := by decide +kernel
theorem d_La_law_731 : decode code 731 = .ok (.iaload, 1) := by decide +kernel
theorem d_La_law_732 : decode code 732 = .ok (.aload_n 0, 1) := by decide +kernel
theorem d_La_law_733 : decode code 733 = .ok (.iload_n 3, 1) := by decide +kernel
theorem d_La_law_734 : decode code 734 = .ok (.iconst 3, 1) := by decide +kernel
theorem d_La_law_735 : decode code 735 = .ok (.iadd, 1) := by decide +kernel
theorem d_La_law_736 : decode code 736 = .ok (.iaload, 1) := by decide +kernel
theorem d_La_law_737 : decode code 737 = .ok (.aload_n 0, 1) := by decide +kernel
theorem d_La_law_738 : decode code 738 = .ok (.iload_n 3, 1) := by decide +kernel
theorem d_La_law_739 : decode code 739 = .ok (.iconst 4, 1) := by decide +kernel
theorem d_La_law_740 : decode code 740 = .ok (.iadd, 1) := by decide +kernel
theorem d_La_law_741 : decode code 741 = .ok (.iaload, 1) := by decide +kernel
theorem d_La_law_742 : decode code 742 = .ok (.invokevirtual 93, 3) := by decide +kernel
theorem d_La_law_745 : decode code 745 = .ok (.aload_n 2, 1) := by decide +kernel
theorem d_La_law_746 : decode code 746 = .ok (.aload_n 0, 1) := by decide +kernel
theorem d_La_law_747 : decode code 747 = .ok (.iload_n 3, 1) := by decide +kernel
theorem d_La_law_748 : decode code 748 = .ok (.iconst 1, 1) := by decide +kernel
theorem d_La_law_749 : decode code 749 = .ok (.iadd, 1) := by decide +kernel
theorem d_La_law_750 : decode code 750 = .ok (.iaload, 1) := by decide +kernel
theorem d_La_law_751 : decode code 751 = .ok (.aload_n 0, 1) := by decide +kernel
theorem d_La_law_752 : decode code 752 = .ok (.iload_n 3, 1) := by decide +kernel
theorem d_La_law_753 : decode code 753 = .ok (.iconst 2, 1) := by decide +kernel
theorem d_La_law_754 : decode code 754 = .ok (.iadd, 1) := by decide +kernel
theorem d_La_law_755 : decode code 755 = .ok (.iaload, 1) := by decide +kernel
theorem d_La_law_756 : decode code 756 = .ok (.aload_n 0, 1) := by decide +kernel
theorem d_La_law_757 : decode code 757 = .ok (.iload_n 3, 1) := by decide +kernel
theorem d_La_law_758 : decode code 758 = .ok (.iconst 3, 1) := by decide +kernel
theorem d_La_law_759 : decode code 759 = .ok (.iadd, 1) := by decide +kernel
theorem d_La_law_760 : decode code 760 = .ok (.iaload, 1) := by decide +kernel
theorem d_La_law_761 : decode code 761 = .ok (.aload_n 0, 1) := by decide +kernel
theorem d_La_law_762 : decode code 762 = .ok (.iload_n 3, 1) := by decide +kernel
theorem d_La_law_763 : decode code 763 = .ok (.iconst 4, 1) := by decide +kernel
theorem d_La_law_764 : decode code 764 = .ok (.iadd, 1) := by decide +kernel
theorem d_La_law_765 : decode code 765 = .ok (.iaload, 1) := by decide +kernel
theorem d_La_law_766 : decode code 766 = .ok (.invokevirtual 97, 3) := by decide +kernel
theorem d_La_law_769 : decode code 769 = .ok (.lcmp, 1) := by decide +kernel
theorem d_La_law_770 : decode code 770 = .ok (.ifCond .eq (161), 3) := by decide +kernel
theorem d_La_law_773 : decode code 773 = .ok (.iconst 0, 1) := by decide +kernel
theorem d_La_law_774 : decode code 774 = .ok (.ireturn, 1) := by decide +kernel
set_option maxHeartbeats 4000000 in
set_option maxRecDepth 100000 in
theorem La_c16 {p : Program} {l : Launch} {e : Env} {s : State} {m : MethodId} {below : List Frame} {meth : Method} {c : Code} {b L : Nat} {xs : Nat → Int32} {dC : Nat → ClassId} {dI : Nat → Nat → Nat} {cI cJ cG cZ : ClassId} {a a' : Nat → Nat} {nc ns : Nat} {Rel : zw_Z → zw_Z → Prop} {k : Nat} (hL : L ≤ 2561) (C0 : lw_At p s m meth c b L xs) (hN : zw_N s) (hK : va_K (dC, dI) vwCl [(cI, .int), (cJ, .long), (cG, .array .int), (cZ, .boolean)] s) (hnc : nc ≤ 600000) (hns : ns ≤ 7302250) (hk : k + 5 ≤ L) (hst : st_rule Rel) (hg : La_G p l e s m below meth c b dC dI cI cJ cG cZ a a' nc ns Rel 931 k) : La_G p l e s m below meth c b dC dI cI cJ cG cZ a a' nc ns Rel 721 k := by
  obtain ⟨hx, hb, hr, hml, hown0, hts0, hX, hbl, hlocks, hgv⟩ := id C0
  have hown : s.vm.findClass R_La = some m.cls := hown0
  have hA : ∀ q : Nat, s.heap.size ≤ q → (fun q : Nat => s.heap.size ≤ q) q := fun _ h => h
  have hbA : ¬ (fun q : Nat => s.heap.size ≤ q) b := Nat.not_le.mpr hbl
  have ht : ∀ w ∈ zw_tbl, w.before #[Value.ref b] s = true := fun w h => hts0 w (List.mem_filter.mp h).1
  have hts : ∀ w ∈ (Cond.initialized R_La :: zw_tbl), w.before #[Value.ref b] s = true := fun w h => (List.mem_cons.mp h).elim (fun q => q ▸ ht _ kw_0) (ht w)
  intro fi fl ai al gi gl bi bl H locs ls hR hPA hPB hD hS hl
  have h_1 : vp_in (nI k + (1 : Int32)) L := La_in (j := 1) (by omega) hL
  have h_2 : vp_in (nI k + (2 : Int32)) L := La_in (j := 2) (by omega) hL
  have h_3 : vp_in (nI k + (3 : Int32)) L := La_in (j := 3) (by omega) hL
  have h_4 : vp_in (nI k + (4 : Int32)) L := La_in (j := 4) (by omega) hL
  have hw := hst fi fl ai al gi gl bi bl (xs (nI k + (1 : Int32)).toNatClampNeg) (xs (nI k + (2 : Int32)).toNatClampNeg) (xs (nI k + (3 : Int32)).toNatClampNeg) (xs (nI k + (4 : Int32)).toNatClampNeg) hR
  refine lv_aload_n hx hb d_La_law_721 rfl (lv_at hl 1 rfl) ?_
  refine lv_aload_n hx hb d_La_law_722 rfl (lv_at hl 0 rfl) ?_
  refine lv_iload_n hx hb d_La_law_723 rfl (lv_at hl 3 rfl) ?_
  refine lv_iconst (v := (1 : Int32)) hx hb d_La_law_724 (by decide) ?_
  refine lv_iadd hx hb d_La_law_725 ?_
  refine va_sld hx hb hX hbl hbA hS h_1 d_La_law_726 ?_
  refine lv_aload_n hx hb d_La_law_727 rfl (lv_at hl 0 rfl) ?_
  refine lv_iload_n hx hb d_La_law_728 rfl (lv_at hl 3 rfl) ?_
  refine lv_iconst (v := (2 : Int32)) hx hb d_La_law_729 (by decide) ?_
  refine lv_iadd hx hb d_La_law_730 ?_
  refine va_sld hx hb hX hbl hbA hS h_2 d_La_law_731 ?_
  refine lv_aload_n hx hb d_La_law_732 rfl (lv_at hl 0 rfl) ?_
  refine lv_iload_n hx hb d_La_law_733 rfl (lv_at hl 3 rfl) ?_
  refine lv_iconst (v := (3 : Int32)) hx hb d_La_law_734 (by decide) ?_
  refine lv_iadd hx hb d_La_law_735 ?_
  refine va_sld hx hb hX hbl hbA hS h_3 d_La_law_736 ?_
  refine lv_aload_n hx hb d_La_law_737 rfl (lv_at hl 0 rfl) ?_
  refine lv_iload_n hx hb d_La_law_738 rfl (lv_at hl 3 rfl) ?_
  refine lv_iconst (v := (4 : Int32)) hx hb d_La_law_739 (by decide) ?_
  refine lv_iadd hx hb d_La_law_740 ?_
  refine va_sld hx hb hX hbl hbA hS h_4 d_La_law_741 ?_
  refine zw_lAl (va_runV (As := [.int (xs (nI k + (1 : Int32)).toNatClampNeg), .int (xs (nI k + (2 : Int32)).toNatClampNeg), .int (xs (nI k + (3 : Int32)).toNatClampNeg), .int (xs (nI k + (4 : Int32)).toNatClampNeg)]) (rest := []) ⟨hx, hb, hml, hown, hts⟩ (c_SS_rule l dC dI cI cJ cG cZ a H.size fi fl ai al (xs (nI k + (1 : Int32)).toNatClampNeg) (xs (nI k + (2 : Int32)).toNatClampNeg) (xs (nI k + (3 : Int32)).toNatClampNeg) (xs (nI k + (4 : Int32)).toNatClampNeg) _ hw) (cwV 4 hts (zw_goodV kw_508 kw_509 kw_510 kw_1 kw_511) rfl rfl rfl hd_SS_rule ⟨Nat.le_of_ble_eq_true rfl, Nat.le_of_ble_eq_true rfl⟩) (zw_preVw (ci := 0) (q0 := 0) hK hN hPA (zw_DL hD) rfl rfl) rfl rfl hl.1 rfl (lv_room (Nat.le_of_ble_eq_true rfl)) d_La_law_742 ⟨hnc, hns⟩) hPB hD hS hA (fun rA fi' fl' ai' al' H locs hw hPA hPB hD hS => ?_)
  obtain ⟨rfl, rfl, hw⟩ := hw
  refine lv_aload_n hx hb d_La_law_745 rfl (lv_at hl 2 rfl) ?_
  refine lv_aload_n hx hb d_La_law_746 rfl (lv_at hl 0 rfl) ?_
  refine lv_iload_n hx hb d_La_law_747 rfl (lv_at hl 3 rfl) ?_
  refine lv_iconst (v := (1 : Int32)) hx hb d_La_law_748 (by decide) ?_
  refine lv_iadd hx hb d_La_law_749 ?_
  refine va_sld hx hb hX hbl hbA hS h_1 d_La_law_750 ?_
  refine lv_aload_n hx hb d_La_law_751 rfl (lv_at hl 0 rfl) ?_
  refine lv_iload_n hx hb d_La_law_752 rfl (lv_at hl 3 rfl) ?_
  refine lv_iconst (v := (2 : Int32)) hx hb d_La_law_753 (by decide) ?_
  refine lv_iadd hx hb d_La_law_754 ?_
  refine va_sld hx hb hX hbl hbA hS h_2 d_La_law_755 ?_
  refine lv_aload_n hx hb d_La_law_756 rfl (lv_at hl 0 rfl) ?_
  refine lv_iload_n hx hb d_La_law_757 rfl (lv_at hl 3 rfl) ?_
  refine lv_iconst (v := (3 : Int32)) hx hb d_La_law_758 (by decide) ?_
  refine lv_iadd hx hb d_La_law_759 ?_
  refine va_sld hx hb hX hbl hbA hS h_3 d_La_law_760 ?_
  refine lv_aload_n hx hb d_La_law_761 rfl (lv_at hl 0 rfl) ?_
  refine lv_iload_n hx hb d_La_law_762 rfl (lv_at hl 3 rfl) ?_
  refine lv_iconst (v := (4 : Int32)) hx hb d_La_law_763 (by decide) ?_
  refine lv_iadd hx hb d_La_law_764 ?_
  refine va_sld hx hb hX hbl hbA hS h_4 d_La_law_765 ?_
  refine zw_lBl (va_runV (As := [.int (xs (nI k + (1 : Int32)).toNatClampNeg), .int (xs (nI k + (2 : Int32)).toNatClampNeg), .int (xs (nI k + (3 : Int32)).toNatClampNeg), .int (xs (nI k + (4 : Int32)).toNatClampNeg)]) (rest := [.long rA]) ⟨hx, hb, hml, hown, hts⟩ (c_Mo_rule l dC dI cI cJ cG cZ a' H.size gi gl bi bl (xs (nI k + (1 : Int32)).toNatClampNeg) (xs (nI k + (2 : Int32)).toNatClampNeg) (xs (nI k + (3 : Int32)).toNatClampNeg) (xs (nI k + (4 : Int32)).toNatClampNeg) _ hw) (cwV 4 hts (zw_goodV kw_892 kw_893 kw_894 kw_9 kw_895) rfl rfl rfl hd_Mo_rule ⟨Nat.le_of_ble_eq_true rfl, Nat.le_of_ble_eq_true rfl⟩) (zw_preVw (ci := 7) (q0 := 0) hK hN hPB (zw_DR hD) rfl rfl) rfl rfl hl.1 rfl (lv_room (Nat.le_of_ble_eq_true rfl)) d_La_law_766 ⟨hnc, hns⟩) hPA hD hS hA (fun rB gi' gl' bi' bl' H locs hw hPA hPB hD hS => ?_)
  obtain ⟨rfl, rfl, hw⟩ := hw
  obtain ⟨hEq, hR⟩ := hw
  refine W.lcmp hx hb d_La_law_769 ?_
  refine lv_if_eq (tgt := 931) hx hb d_La_law_770 (by decide) (fun c9 => ?_) (fun c9 => absurd (zw_lg_eq.mpr hEq) c9)
  exact hg fi' fl ai' al gi' gl bi' bl H locs ls hR hPA hPB hD hS hl
theorem d_La_law_775 : decode code 775 = .ok (.aload_n 1, 1) := by decide +kernel
theorem d_La_law_776 : decode code 776 = .ok (.aload_n 0, 1) := by decide +kernel
theorem d_La_law_777 : decode code 777 = .ok (.iload_n 3, 1) := by decide +kernel
theorem d_La_law_778 : decode code 778 = .ok (.iconst 1, 1) := by decide +kernel
theorem d_La_law_779 : decode code 779 = .ok (.iadd, 1) := by decide +kernel
theorem d_La_law_780 : decode code 780 = .ok (.iaload, 1) := by decide +kernel
theorem d_La_law_781 : decode code 781 = .ok (.invokevirtual 98, 3) := by decide +kernel
theorem d_La_law_784 : decode code 784 = .ok (.aload_n 2, 1) := by decide +kernel
theorem d_La_law_785 : decode code 785 = .ok (.aload_n 0, 1) := by decide +kernel
theorem d_La_law_786 : decode code 786 = .ok (.iload_n 3, 1) := by decide +kernel
theorem d_La_law_787 : decode code 787 = .ok (.iconst 1, 1) := by decide +kernel
theorem d_La_law_788 : decode code 788 = .ok (.iadd, 1) := by decide +kernel
theorem d_La_law_789 : decode code 789 = .ok (.iaload, 1) := by decide +kernel
theorem d_La_law_790 : decode code 790 = .ok (.invokevirtual 101, 3) := by decide +kernel
theorem d_La_law_793 : decode code 793 = .ok (.lcmp, 1) := by decide +kernel
theorem d_La_law_794 : decode code 794 = .ok (.ifCond .eq (137), 3) := by decide +kernel
theorem d_La_law_797 : decode code 797 = .ok (.iconst 0, 1) := by decide +kernel
theorem d_La_law_798 : decode code 798 = .ok (.ireturn, 1) := by decide +kernel
set_option maxHeartbeats 4000000 in
set_option maxRecDepth 100000 in
theorem La_c17 {p : Program} {l : Launch} {e : Env} {s : State} {m : MethodId} {below : List Frame} {meth : Method} {c : Code} {b L : Nat} {xs : Nat → Int32} {dC : Nat → ClassId} {dI : Nat → Nat → Nat} {cI cJ cG cZ : ClassId} {a a' : Nat → Nat} {nc ns : Nat} {Rel : zw_Z → zw_Z → Prop} {k : Nat} (hL : L ≤ 2561) (C0 : lw_At p s m meth c b L xs) (hN : zw_N s) (hK : va_K (dC, dI) vwCl [(cI, .int), (cJ, .long), (cG, .array .int), (cZ, .boolean)] s) (hnc : nc ≤ 600000) (hns : ns ≤ 7302250) (hk : k + 5 ≤ L) (hst : st_broken Rel) (hg : La_G p l e s m below meth c b dC dI cI cJ cG cZ a a' nc ns Rel 931 k) : La_G p l e s m below meth c b dC dI cI cJ cG cZ a a' nc ns Rel 775 k := by
  obtain ⟨hx, hb, hr, hml, hown0, hts0, hX, hbl, hlocks, hgv⟩ := id C0
  have hown : s.vm.findClass R_La = some m.cls := hown0
  have hA : ∀ q : Nat, s.heap.size ≤ q → (fun q : Nat => s.heap.size ≤ q) q := fun _ h => h
  have hbA : ¬ (fun q : Nat => s.heap.size ≤ q) b := Nat.not_le.mpr hbl
  have ht : ∀ w ∈ zw_tbl, w.before #[Value.ref b] s = true := fun w h => hts0 w (List.mem_filter.mp h).1
  have hts : ∀ w ∈ (Cond.initialized R_La :: zw_tbl), w.before #[Value.ref b] s = true := fun w h => (List.mem_cons.mp h).elim (fun q => q ▸ ht _ kw_0) (ht w)
  intro fi fl ai al gi gl bi bl H locs ls hR hPA hPB hD hS hl
  have h_1 : vp_in (nI k + (1 : Int32)) L := La_in (j := 1) (by omega) hL
  have hw := hst fi fl ai al gi gl bi bl (xs (nI k + (1 : Int32)).toNatClampNeg) hR
  refine lv_aload_n hx hb d_La_law_775 rfl (lv_at hl 1 rfl) ?_
  refine lv_aload_n hx hb d_La_law_776 rfl (lv_at hl 0 rfl) ?_
  refine lv_iload_n hx hb d_La_law_777 rfl (lv_at hl 3 rfl) ?_
  refine lv_iconst (v := (1 : Int32)) hx hb d_La_law_778 (by decide) ?_
  refine lv_iadd hx hb d_La_law_779 ?_
  refine va_sld hx hb hX hbl hbA hS h_1 d_La_law_780 ?_
  refine zw_lAl (va_runV (As := [.int (xs (nI k + (1 : Int32)).toNatClampNeg)]) (rest := []) ⟨hx, hb, hml, hown, hts⟩ (c_SS_broken l dC dI cI cJ cG cZ a H.size fi fl ai al (xs (nI k + (1 : Int32)).toNatClampNeg) _ hw) (cwV 1 hts (zw_goodV kw_520 kw_521 kw_522 kw_1 kw_523) rfl rfl rfl hd_SS_broken ⟨Nat.le_of_ble_eq_true rfl, Nat.le_of_ble_eq_true rfl⟩) (zw_preVw (ci := 0) (q0 := 0) hK hN hPA (zw_DL hD) rfl rfl) rfl rfl hl.1 rfl (lv_room (Nat.le_of_ble_eq_true rfl)) d_La_law_781 ⟨hnc, hns⟩) hPB hD hS hA (fun rA fi' fl' ai' al' H locs hw hPA hPB hD hS => ?_)
  obtain ⟨rfl, hw⟩ := hw
  refine lv_aload_n hx hb d_La_law_784 rfl (lv_at hl 2 rfl) ?_
  refine lv_aload_n hx hb d_La_law_785 rfl (lv_at hl 0 rfl) ?_
  refine lv_iload_n hx hb d_La_law_786 rfl (lv_at hl 3 rfl) ?_
  refine lv_iconst (v := (1 : Int32)) hx hb d_La_law_787 (by decide) ?_
  refine lv_iadd hx hb d_La_law_788 ?_
  refine va_sld hx hb hX hbl hbA hS h_1 d_La_law_789 ?_
  refine zw_lBl (va_runV (As := [.int (xs (nI k + (1 : Int32)).toNatClampNeg)]) (rest := [.long rA]) ⟨hx, hb, hml, hown, hts⟩ (c_Mo_broken l dC dI cI cJ cG cZ a' H.size gi gl bi bl (xs (nI k + (1 : Int32)).toNatClampNeg) _ hw) (cwV 1 hts (zw_goodV kw_896 kw_897 kw_898 kw_9 kw_899) rfl rfl rfl hd_Mo_broken ⟨Nat.le_of_ble_eq_true rfl, Nat.le_of_ble_eq_true rfl⟩) (zw_preVw (ci := 7) (q0 := 0) hK hN hPB (zw_DR hD) rfl rfl) rfl rfl hl.1 rfl (lv_room (Nat.le_of_ble_eq_true rfl)) d_La_law_790 ⟨hnc, hns⟩) hPA hD hS hA (fun rB gi' gl' bi' bl' H locs hw hPA hPB hD hS => ?_)
  obtain ⟨rfl, hw⟩ := hw
  obtain ⟨hEq, hR⟩ := hw
  refine W.lcmp hx hb d_La_law_793 ?_
  refine lv_if_eq (tgt := 931) hx hb d_La_law_794 (by decide) (fun c9 => ?_) (fun c9 => absurd (zw_lg_eq.mpr hEq) c9)
  exact hg fi' fl ai' al' gi' gl bi' bl' H locs ls hR hPA hPB hD hS hl
theorem d_La_law_799 : decode code 799 = .ok (.aload_n 1, 1) := by decide +kernel
theorem d_La_law_800 : decode code 800 = .ok (.aload_n 0, 1) := by decide +kernel
theorem d_La_law_801 : decode code 801 = .ok (.iload_n 3, 1) := by decide +kernel
theorem d_La_law_802 : decode code 802 = .ok (.iconst 1, 1) := by decide +kernel
theorem d_La_law_803 : decode code 803 = .ok (.iadd, 1) := by decide +kernel
theorem d_La_law_804 : decode code 804 = .ok (.iaload, 1) := by decide +kernel
theorem d_La_law_805 : decode code 805 = .ok (.aload_n 0, 1) := by decide +kernel
theorem d_La_law_806 : decode code 806 = .ok (.iload_n 3, 1) := by decide +kernel
theorem d_La_law_807 : decode code 807 = .ok (.iconst 2, 1) := by decide +kernel
theorem d_La_law_808 : decode code 808 = .ok (.iadd, 1) := by decide +kernel
theorem d_La_law_809 : decode code 809 = .ok (.iaload, 1) := by decide +kernel
theorem d_La_law_810 : decode code 810 = .ok (.invokevirtual 102, 3) := by decide +kernel
theorem d_La_law_813 : decode code 813 = .ok (.aload_n 2, 1) := by decide +kernel
theorem d_La_law_814 : decode code 814 = .ok (.aload_n 0, 1) := by decide +kernel
theorem d_La_law_815 : decode code 815 = .ok (.iload_n 3, 1) := by decide +kernel
theorem d_La_law_816 : decode code 816 = .ok (.iconst 1, 1) := by decide +kernel
theorem d_La_law_817 : decode code 817 = .ok (.iadd, 1) := by decide +kernel
theorem d_La_law_818 : decode code 818 = .ok (.iaload, 1) := by decide +kernel
theorem d_La_law_819 : decode code 819 = .ok (.aload_n 0, 1) := by decide +kernel
theorem d_La_law_820 : decode code 820 = .ok (.iload_n 3, 1) := by decide +kernel
theorem d_La_law_821 : decode code 821 = .ok (.iconst 2, 1) := by decide +kernel
theorem d_La_law_822 : decode code 822 = .ok (.iadd, 1) := by decide +kernel
theorem d_La_law_823 : decode code 823 = .ok (.iaload, 1) := by decide +kernel
theorem d_La_law_824 : decode code 824 = .ok (.invokevirtual 105, 3) := by decide +kernel
theorem d_La_law_827 : decode code 827 = .ok (.if_icmp .eq (104), 3) := by decide +kernel
theorem d_La_law_830 : decode code 830 = .ok (.iconst 0, 1) := by decide +kernel
theorem d_La_law_831 : decode code 831 = .ok (.ireturn, 1) := by decide +kernel
set_option maxHeartbeats 4000000 in
set_option maxRecDepth 100000 in
theorem La_c18 {p : Program} {l : Launch} {e : Env} {s : State} {m : MethodId} {below : List Frame} {meth : Method} {c : Code} {b L : Nat} {xs : Nat → Int32} {dC : Nat → ClassId} {dI : Nat → Nat → Nat} {cI cJ cG cZ : ClassId} {a a' : Nat → Nat} {nc ns : Nat} {Rel : zw_Z → zw_Z → Prop} {k : Nat} (hL : L ≤ 2561) (C0 : lw_At p s m meth c b L xs) (hN : zw_N s) (hK : va_K (dC, dI) vwCl [(cI, .int), (cJ, .long), (cG, .array .int), (cZ, .boolean)] s) (hnc : nc ≤ 600000) (hns : ns ≤ 7302250) (hk : k + 5 ≤ L) (hst : st_shift Rel) (hg : La_G p l e s m below meth c b dC dI cI cJ cG cZ a a' nc ns Rel 931 k) : La_G p l e s m below meth c b dC dI cI cJ cG cZ a a' nc ns Rel 799 k := by
  obtain ⟨hx, hb, hr, hml, hown0, hts0, hX, hbl, hlocks, hgv⟩ := id C0
  have hown : s.vm.findClass R_La = some m.cls := hown0
  have hA : ∀ q : Nat, s.heap.size ≤ q → (fun q : Nat => s.heap.size ≤ q) q := fun _ h => h
  have hbA : ¬ (fun q : Nat => s.heap.size ≤ q) b := Nat.not_le.mpr hbl
  have ht : ∀ w ∈ zw_tbl, w.before #[Value.ref b] s = true := fun w h => hts0 w (List.mem_filter.mp h).1
  have hts : ∀ w ∈ (Cond.initialized R_La :: zw_tbl), w.before #[Value.ref b] s = true := fun w h => (List.mem_cons.mp h).elim (fun q => q ▸ ht _ kw_0) (ht w)
  intro fi fl ai al gi gl bi bl H locs ls hR hPA hPB hD hS hl
  have h_1 : vp_in (nI k + (1 : Int32)) L := La_in (j := 1) (by omega) hL
  have h_2 : vp_in (nI k + (2 : Int32)) L := La_in (j := 2) (by omega) hL
  have hw := hst fi fl ai al gi gl bi bl (xs (nI k + (1 : Int32)).toNatClampNeg) (xs (nI k + (2 : Int32)).toNatClampNeg) hR
  refine lv_aload_n hx hb d_La_law_799 rfl (lv_at hl 1 rfl) ?_
  refine lv_aload_n hx hb d_La_law_800 rfl (lv_at hl 0 rfl) ?_
  refine lv_iload_n hx hb d_La_law_801 rfl (lv_at hl 3 rfl) ?_
  refine lv_iconst (v := (1 : Int32)) hx hb d_La_law_802 (by decide) ?_
  refine lv_iadd hx hb d_La_law_803 ?_
  refine va_sld hx hb hX hbl hbA hS h_1 d_La_law_804 ?_
  refine lv_aload_n hx hb d_La_law_805 rfl (lv_at hl 0 rfl) ?_
  refine lv_iload_n hx hb d_La_law_806 rfl (lv_at hl 3 rfl) ?_
  refine lv_iconst (v := (2 : Int32)) hx hb d_La_law_807 (by decide) ?_
  refine lv_iadd hx hb d_La_law_808 ?_
  refine va_sld hx hb hX hbl hbA hS h_2 d_La_law_809 ?_
  refine zw_lAi (va_runV (As := [.int (xs (nI k + (1 : Int32)).toNatClampNeg), .int (xs (nI k + (2 : Int32)).toNatClampNeg)]) (rest := []) ⟨hx, hb, hml, hown, hts⟩ (c_SS_shift l dC dI cI cJ cG cZ a H.size fi fl ai al (xs (nI k + (1 : Int32)).toNatClampNeg) (xs (nI k + (2 : Int32)).toNatClampNeg) _ hw) (cwV 2 hts (zw_goodV kw_537 kw_538 kw_539 kw_1 kw_540) rfl rfl rfl hd_SS_shift ⟨Nat.le_of_ble_eq_true rfl, Nat.le_of_ble_eq_true rfl⟩) (zw_preVw (ci := 0) (q0 := 0) hK hN hPA (zw_DL hD) rfl rfl) rfl rfl hl.1 rfl (lv_room (Nat.le_of_ble_eq_true rfl)) d_La_law_810 ⟨hnc, hns⟩) hPB hD hS hA (fun rA fi' fl' ai' al' H locs hw hPA hPB hD hS => ?_)
  obtain ⟨rfl, rfl, hw⟩ := hw
  refine lv_aload_n hx hb d_La_law_813 rfl (lv_at hl 2 rfl) ?_
  refine lv_aload_n hx hb d_La_law_814 rfl (lv_at hl 0 rfl) ?_
  refine lv_iload_n hx hb d_La_law_815 rfl (lv_at hl 3 rfl) ?_
  refine lv_iconst (v := (1 : Int32)) hx hb d_La_law_816 (by decide) ?_
  refine lv_iadd hx hb d_La_law_817 ?_
  refine va_sld hx hb hX hbl hbA hS h_1 d_La_law_818 ?_
  refine lv_aload_n hx hb d_La_law_819 rfl (lv_at hl 0 rfl) ?_
  refine lv_iload_n hx hb d_La_law_820 rfl (lv_at hl 3 rfl) ?_
  refine lv_iconst (v := (2 : Int32)) hx hb d_La_law_821 (by decide) ?_
  refine lv_iadd hx hb d_La_law_822 ?_
  refine va_sld hx hb hX hbl hbA hS h_2 d_La_law_823 ?_
  refine zw_lBi (va_runV (As := [.int (xs (nI k + (1 : Int32)).toNatClampNeg), .int (xs (nI k + (2 : Int32)).toNatClampNeg)]) (rest := [.int rA]) ⟨hx, hb, hml, hown, hts⟩ (c_Mo_shift l dC dI cI cJ cG cZ a' H.size gi gl bi bl (xs (nI k + (1 : Int32)).toNatClampNeg) (xs (nI k + (2 : Int32)).toNatClampNeg) _ hw) (cwV 2 hts (zw_goodV kw_904 kw_905 kw_906 kw_9 kw_907) rfl rfl rfl hd_Mo_shift ⟨Nat.le_of_ble_eq_true rfl, Nat.le_of_ble_eq_true rfl⟩) (zw_preVw (ci := 7) (q0 := 0) hK hN hPB (zw_DR hD) rfl rfl) rfl rfl hl.1 rfl (lv_room (Nat.le_of_ble_eq_true rfl)) d_La_law_824 ⟨hnc, hns⟩) hPA hD hS hA (fun rB gi' gl' bi' bl' H locs hw hPA hPB hD hS => ?_)
  obtain ⟨rfl, rfl, hw⟩ := hw
  obtain ⟨hEq, hR⟩ := hw
  refine lv_icmp_eq (tgt := 931) hx hb d_La_law_827 (by decide) (fun c9 => ?_) (fun c9 => absurd hEq c9)
  exact hg fi' fl ai' al gi' gl bi' bl H locs ls hR hPA hPB hD hS hl
theorem d_La_law_832 : decode code 832 = .ok (.aload_n 1, 1) := by decide +kernel
theorem d_La_law_833 : decode code 833 = .ok (.aload_n 0, 1) := by decide +kernel
theorem d_La_law_834 : decode code 834 = .ok (.iload_n 3, 1) := by decide +kernel
theorem d_La_law_835 : decode code 835 = .ok (.iconst 1, 1) := by decide +kernel
theorem d_La_law_836 : decode code 836 = .ok (.iadd, 1) := by decide +kernel
theorem d_La_law_837 : decode code 837 = .ok (.iaload, 1) := by decide +kernel
theorem d_La_law_838 : decode code 838 = .ok (.invokevirtual 106, 3) := by decide +kernel
theorem d_La_law_841 : decode code 841 = .ok (.aload_n 2, 1) := by decide +kernel
theorem d_La_law_842 : decode code 842 = .ok (.aload_n 0, 1) := by decide +kernel
theorem d_La_law_843 : decode code 843 = .ok (.iload_n 3, 1) := by decide +kernel
theorem d_La_law_844 : decode code 844 = .ok (.iconst 1, 1) := by decide +kernel
theorem d_La_law_845 : decode code 845 = .ok (.iadd, 1) := by decide +kernel
theorem d_La_law_846 : decode code 846 = .ok (.iaload, 1) := by decide +kernel
theorem d_La_law_847 : decode code 847 = .ok (.invokevirtual 109, 3) := by decide +kernel
theorem d_La_law_850 : decode code 850 = .ok (.lcmp, 1) := by decide +kernel
theorem d_La_law_851 : decode code 851 = .ok (.ifCond .eq (80), 3) := by decide +kernel
theorem d_La_law_854 : decode code 854 = .ok (.iconst 0, 1) := by decide +kernel
theorem d_La_law_855 : decode code 855 = .ok (.ireturn, 1) := by decide +kernel
set_option maxHeartbeats 4000000 in
set_option maxRecDepth 100000 in
theorem La_c19 {p : Program} {l : Launch} {e : Env} {s : State} {m : MethodId} {below : List Frame} {meth : Method} {c : Code} {b L : Nat} {xs : Nat → Int32} {dC : Nat → ClassId} {dI : Nat → Nat → Nat} {cI cJ cG cZ : ClassId} {a a' : Nat → Nat} {nc ns : Nat} {Rel : zw_Z → zw_Z → Prop} {k : Nat} (hL : L ≤ 2561) (C0 : lw_At p s m meth c b L xs) (hN : zw_N s) (hK : va_K (dC, dI) vwCl [(cI, .int), (cJ, .long), (cG, .array .int), (cZ, .boolean)] s) (hnc : nc ≤ 600000) (hns : ns ≤ 7302250) (hk : k + 5 ≤ L) (hst : st_redo Rel) (hg : La_G p l e s m below meth c b dC dI cI cJ cG cZ a a' nc ns Rel 931 k) : La_G p l e s m below meth c b dC dI cI cJ cG cZ a a' nc ns Rel 832 k := by
  obtain ⟨hx, hb, hr, hml, hown0, hts0, hX, hbl, hlocks, hgv⟩ := id C0
  have hown : s.vm.findClass R_La = some m.cls := hown0
  have hA : ∀ q : Nat, s.heap.size ≤ q → (fun q : Nat => s.heap.size ≤ q) q := fun _ h => h
  have hbA : ¬ (fun q : Nat => s.heap.size ≤ q) b := Nat.not_le.mpr hbl
  have ht : ∀ w ∈ zw_tbl, w.before #[Value.ref b] s = true := fun w h => hts0 w (List.mem_filter.mp h).1
  have hts : ∀ w ∈ (Cond.initialized R_La :: zw_tbl), w.before #[Value.ref b] s = true := fun w h => (List.mem_cons.mp h).elim (fun q => q ▸ ht _ kw_0) (ht w)
  intro fi fl ai al gi gl bi bl H locs ls hR hPA hPB hD hS hl
  have h_1 : vp_in (nI k + (1 : Int32)) L := La_in (j := 1) (by omega) hL
  have hw := hst fi fl ai al gi gl bi bl (xs (nI k + (1 : Int32)).toNatClampNeg) hR
  refine lv_aload_n hx hb d_La_law_832 rfl (lv_at hl 1 rfl) ?_
  refine lv_aload_n hx hb d_La_law_833 rfl (lv_at hl 0 rfl) ?_
  refine lv_iload_n hx hb d_La_law_834 rfl (lv_at hl 3 rfl) ?_
  refine lv_iconst (v := (1 : Int32)) hx hb d_La_law_835 (by decide) ?_
  refine lv_iadd hx hb d_La_law_836 ?_
  refine va_sld hx hb hX hbl hbA hS h_1 d_La_law_837 ?_
  refine zw_lAl (va_runV (As := [.int (xs (nI k + (1 : Int32)).toNatClampNeg)]) (rest := []) ⟨hx, hb, hml, hown, hts⟩ (c_SS_redo l dC dI cI cJ cG cZ a H.size fi fl ai al (xs (nI k + (1 : Int32)).toNatClampNeg) _ hw) (cwV 1 hts (zw_goodV kw_550 kw_551 kw_552 kw_1 kw_553) rfl rfl rfl hd_SS_redo ⟨Nat.le_of_ble_eq_true rfl, Nat.le_of_ble_eq_true rfl⟩) (zw_preVw (ci := 0) (q0 := 0) hK hN hPA (zw_DL hD) rfl rfl) rfl rfl hl.1 rfl (lv_room (Nat.le_of_ble_eq_true rfl)) d_La_law_838 ⟨hnc, hns⟩) hPB hD hS hA (fun rA fi' fl' ai' al' H locs hw hPA hPB hD hS => ?_)
  obtain ⟨rfl, rfl, hw⟩ := hw
  refine lv_aload_n hx hb d_La_law_841 rfl (lv_at hl 2 rfl) ?_
  refine lv_aload_n hx hb d_La_law_842 rfl (lv_at hl 0 rfl) ?_
  refine lv_iload_n hx hb d_La_law_843 rfl (lv_at hl 3 rfl) ?_
  refine lv_iconst (v := (1 : Int32)) hx hb d_La_law_844 (by decide) ?_
  refine lv_iadd hx hb d_La_law_845 ?_
  refine va_sld hx hb hX hbl hbA hS h_1 d_La_law_846 ?_
  refine zw_lBl (va_runV (As := [.int (xs (nI k + (1 : Int32)).toNatClampNeg)]) (rest := [.long rA]) ⟨hx, hb, hml, hown, hts⟩ (c_Mo_redo l dC dI cI cJ cG cZ a' H.size gi gl bi bl (xs (nI k + (1 : Int32)).toNatClampNeg) _ hw) (cwV 1 hts (zw_goodV kw_908 kw_909 kw_910 kw_9 kw_911) rfl rfl rfl hd_Mo_redo ⟨Nat.le_of_ble_eq_true rfl, Nat.le_of_ble_eq_true rfl⟩) (zw_preVw (ci := 7) (q0 := 0) hK hN hPB (zw_DR hD) rfl rfl) rfl rfl hl.1 rfl (lv_room (Nat.le_of_ble_eq_true rfl)) d_La_law_847 ⟨hnc, hns⟩) hPA hD hS hA (fun rB gi' gl' bi' bl' H locs hw hPA hPB hD hS => ?_)
  obtain ⟨rfl, rfl, hw⟩ := hw
  obtain ⟨hEq, hR⟩ := hw
  refine W.lcmp hx hb d_La_law_850 ?_
  refine lv_if_eq (tgt := 931) hx hb d_La_law_851 (by decide) (fun c9 => ?_) (fun c9 => absurd (zw_lg_eq.mpr hEq) c9)
  exact hg fi' fl ai al' gi' gl bi bl' H locs ls hR hPA hPB hD hS hl
