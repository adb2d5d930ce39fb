theorem d_La_law_856 : decode code 856 = .ok (.aload_n 1, 1) := by decide +kernel
theorem d_La_law_857 : decode code 857 = .ok (.invokevirtual 110, 3) := by decide +kernel
theorem d_La_law_860 : decode code 860 = .ok (.aload_n 2, 1) := by decide +kernel
theorem d_La_law_861 : decode code 861 = .ok (.invokevirtual 114, 3) := by decide +kernel
theorem d_La_law_864 : decode code 864 = .ok (.lcmp, 1) := by decide +kernel
theorem d_La_law_865 : decode code 865 = .ok (.ifCond .eq (66), 3) := by decide +kernel
theorem d_La_law_868 : decode code 868 = .ok (.iconst 0, 1) := by decide +kernel
theorem d_La_law_869 : decode code 869 = .ok (.ireturn, 1) := by decide +kernel
set_option maxHeartbeats 4000000 in
set_option maxRecDepth 100000 in
theorem La_c20 {p : Program} {l : Launch} {e : Env} {s : State} {m : MethodId} {below : List Frame} {meth : Method} {c : Code} {b L : Nat} {xs : Nat → Int32} {dC : Nat → ClassId} {dI : Nat → Nat → Nat} {cI cJ cG cZ : ClassId} {a a' : Nat → Nat} {nc ns : Nat} {Rel : zw_Z → zw_Z → Prop} {k : Nat} (hL : L ≤ 2561) (C0 : lw_At p s m meth c b L xs) (hN : zw_N s) (hK : va_K (dC, dI) vwCl [(cI, .int), (cJ, .long), (cG, .array .int), (cZ, .boolean)] s) (hnc : nc ≤ 600000) (hns : ns ≤ 7302250) (hk : k + 5 ≤ L) (hst : st_best Rel) (hg : La_G p l e s m below meth c b dC dI cI cJ cG cZ a a' nc ns Rel 931 k) : La_G p l e s m below meth c b dC dI cI cJ cG cZ a a' nc ns Rel 856 k := by
  obtain ⟨hx, hb, hr, hml, hown0, hts0, hX, hbl, hlocks, hgv⟩ := id C0
  have hown : s.vm.findClass R_La = some m.cls := hown0
  have hA : ∀ q : Nat, s.heap.size ≤ q → (fun q : Nat => s.heap.size ≤ q) q := fun _ h => h
  have hbA : ¬ (fun q : Nat => s.heap.size ≤ q) b := Nat.not_le.mpr hbl
  have ht : ∀ w ∈ zw_tbl, w.before #[Value.ref b] s = true := fun w h => hts0 w (List.mem_filter.mp h).1
  have hts : ∀ w ∈ (Cond.initialized R_La :: zw_tbl), w.before #[Value.ref b] s = true := fun w h => (List.mem_cons.mp h).elim (fun q => q ▸ ht _ kw_0) (ht w)
  intro fi fl ai al gi gl bi bl H locs ls hR hPA hPB hD hS hl
  have hw := hst fi fl ai al gi gl bi bl hR
  refine lv_aload_n hx hb d_La_law_856 rfl (lv_at hl 1 rfl) ?_
  refine zw_lAl (va_runV (As := []) (rest := []) ⟨hx, hb, hml, hown, hts⟩ (c_SS_best l dC dI cI cJ cG cZ a H.size fi fl ai al _ hw) (cwV 0 hts (zw_goodV kw_558 kw_559 kw_560 kw_1 kw_561) rfl rfl rfl hd_SS_best ⟨Nat.le_of_ble_eq_true rfl, Nat.le_of_ble_eq_true rfl⟩) (zw_preVw (ci := 0) (q0 := 0) hK hN hPA (zw_DL hD) rfl rfl) rfl rfl hl.1 rfl (lv_room (Nat.le_of_ble_eq_true rfl)) d_La_law_857 ⟨hnc, hns⟩) hPB hD hS hA (fun rA fi' fl' ai' al' H locs hw hPA hPB hD hS => ?_)
  refine lv_aload_n hx hb d_La_law_860 rfl (lv_at hl 2 rfl) ?_
  refine zw_lBl (va_runV (As := []) (rest := [.long rA]) ⟨hx, hb, hml, hown, hts⟩ (c_Mo_best l dC dI cI cJ cG cZ a' H.size gi gl bi bl _ hw) (cwV 0 hts (zw_goodV kw_912 kw_913 kw_914 kw_9 kw_915) rfl rfl rfl hd_Mo_best ⟨Nat.le_of_ble_eq_true rfl, Nat.le_of_ble_eq_true rfl⟩) (zw_preVw (ci := 7) (q0 := 0) hK hN hPB (zw_DR hD) rfl rfl) rfl rfl hl.1 rfl (lv_room (Nat.le_of_ble_eq_true rfl)) d_La_law_861 ⟨hnc, hns⟩) hPA hD hS hA (fun rB gi' gl' bi' bl' H locs hw hPA hPB hD hS => ?_)
  obtain ⟨rfl, hw⟩ := hw
  obtain ⟨hEq, hR⟩ := hw
  refine W.lcmp hx hb d_La_law_864 ?_
  refine lv_if_eq (tgt := 931) hx hb d_La_law_865 (by decide) (fun c9 => ?_) (fun c9 => absurd (zw_lg_eq.mpr hEq) c9)
  exact hg fi' fl' ai' al' gi' gl bi' bl' H locs ls hR hPA hPB hD hS hl
theorem d_La_law_870 : decode code 870 = .ok (.aload_n 1, 1) := by decide +kernel
theorem d_La_law_871 : decode code 871 = .ok (.aload_n 0, 1) := by decide +kernel
theorem d_La_law_872 : decode code 872 = .ok (.iload_n 3, 1) := by decide +kernel
theorem d_La_law_873 : decode code 873 = .ok (.iconst 1, 1) := by decide +kernel
theorem d_La_law_874 : decode code 874 = .ok (.iadd, 1) := by decide +kernel
theorem d_La_law_875 : decode code 875 = .ok (.iaload, 1) := by decide +kernel
theorem d_La_law_876 : decode code 876 = .ok (.invokevirtual 115, 3) := by decide +kernel
theorem d_La_law_879 : decode code 879 = .ok (.aload_n 2, 1) := by decide +kernel
theorem d_La_law_880 : decode code 880 = .ok (.aload_n 0, 1) := by decide +kernel
theorem d_La_law_881 : decode code 881 = .ok (.iload_n 3, 1) := by decide +kernel
theorem d_La_law_882 : decode code 882 = .ok (.iconst 1, 1) := by decide +kernel
theorem d_La_law_883 : decode code 883 = .ok (.iadd, 1) := by decide +kernel
theorem d_La_law_884 : decode code 884 = .ok (.iaload, 1) := by decide +kernel
theorem d_La_law_885 : decode code 885 = .ok (.invokevirtual 118, 3) := by decide +kernel
theorem d_La_law_888 : decode code 888 = .ok (.lcmp, 1) := by decide +kernel
theorem d_La_law_889 : decode code 889 = .ok (.ifCond .eq (42), 3) := by decide +kernel
theorem d_La_law_892 : decode code 892 = .ok (.iconst 0, 1) := by decide +kernel
theorem d_La_law_893 : decode code 893 = .ok (.ireturn, 1) := by decide +kernel
set_option maxHeartbeats 4000000 in
set_option maxRecDepth 100000 in
theorem La_c21 {p : Program} {l : Launch} {e : Env} {s : State} {m : MethodId} {below : List Frame} {meth : Method} {c : Code} {b L : Nat} {xs : Nat → Int32} {dC : Nat → ClassId} {dI : Nat → Nat → Nat} {cI cJ cG cZ : ClassId} {a a' : Nat → Nat} {nc ns : Nat} {Rel : zw_Z → zw_Z → Prop} {k : Nat} (hL : L ≤ 2561) (C0 : lw_At p s m meth c b L xs) (hN : zw_N s) (hK : va_K (dC, dI) vwCl [(cI, .int), (cJ, .long), (cG, .array .int), (cZ, .boolean)] s) (hnc : nc ≤ 600000) (hns : ns ≤ 7302250) (hk : k + 5 ≤ L) (hst : st_order Rel) (hg : La_G p l e s m below meth c b dC dI cI cJ cG cZ a a' nc ns Rel 931 k) : La_G p l e s m below meth c b dC dI cI cJ cG cZ a a' nc ns Rel 870 k := by
  obtain ⟨hx, hb, hr, hml, hown0, hts0, hX, hbl, hlocks, hgv⟩ := id C0
  have hown : s.vm.findClass R_La = some m.cls := hown0
  have hA : ∀ q : Nat, s.heap.size ≤ q → (fun q : Nat => s.heap.size ≤ q) q := fun _ h => h
  have hbA : ¬ (fun q : Nat => s.heap.size ≤ q) b := Nat.not_le.mpr hbl
  have ht : ∀ w ∈ zw_tbl, w.before #[Value.ref b] s = true := fun w h => hts0 w (List.mem_filter.mp h).1
  have hts : ∀ w ∈ (Cond.initialized R_La :: zw_tbl), w.before #[Value.ref b] s = true := fun w h => (List.mem_cons.mp h).elim (fun q => q ▸ ht _ kw_0) (ht w)
  intro fi fl ai al gi gl bi bl H locs ls hR hPA hPB hD hS hl
  have h_1 : vp_in (nI k + (1 : Int32)) L := La_in (j := 1) (by omega) hL
  have hw := hst fi fl ai al gi gl bi bl (xs (nI k + (1 : Int32)).toNatClampNeg) hR
  refine lv_aload_n hx hb d_La_law_870 rfl (lv_at hl 1 rfl) ?_
  refine lv_aload_n hx hb d_La_law_871 rfl (lv_at hl 0 rfl) ?_
  refine lv_iload_n hx hb d_La_law_872 rfl (lv_at hl 3 rfl) ?_
  refine lv_iconst (v := (1 : Int32)) hx hb d_La_law_873 (by decide) ?_
  refine lv_iadd hx hb d_La_law_874 ?_
  refine va_sld hx hb hX hbl hbA hS h_1 d_La_law_875 ?_
  refine vp_callSl (va_Run.run (va_runV (As := [.int (xs (nI k + (1 : Int32)).toNatClampNeg)]) (rest := []) ⟨hx, hb, hml, hown, hts⟩ (c_SS_order l dC dI cI cJ cG cZ a fi fl ai al (xs (nI k + (1 : Int32)).toNatClampNeg) _ hw) (cwV 1 hts (zw_goodV kw_592 kw_593 kw_594 kw_1 kw_595) rfl rfl rfl hd_SS_order ⟨Nat.le_of_ble_eq_true rfl, Nat.le_of_ble_eq_true rfl⟩) (zw_preV (ci := 0) (q0 := 0) hK hN hPA rfl rfl) rfl rfl hl.1 rfl (lv_room (Nat.le_of_ble_eq_true rfl)) d_La_law_876 ⟨hnc, hns⟩)) (fun rA hw => ?_)
  refine lv_aload_n hx hb d_La_law_879 rfl (lv_at hl 2 rfl) ?_
  refine lv_aload_n hx hb d_La_law_880 rfl (lv_at hl 0 rfl) ?_
  refine lv_iload_n hx hb d_La_law_881 rfl (lv_at hl 3 rfl) ?_
  refine lv_iconst (v := (1 : Int32)) hx hb d_La_law_882 (by decide) ?_
  refine lv_iadd hx hb d_La_law_883 ?_
  refine va_sld hx hb hX hbl hbA hS h_1 d_La_law_884 ?_
  refine vp_callSl (va_Run.run (va_runV (As := [.int (xs (nI k + (1 : Int32)).toNatClampNeg)]) (rest := [.long rA]) ⟨hx, hb, hml, hown, hts⟩ (c_Mo_order l dC dI cI cJ cG cZ a' gi gl bi bl (xs (nI k + (1 : Int32)).toNatClampNeg) _ hw) (cwV 1 hts (zw_goodV kw_929 kw_930 kw_931 kw_9 kw_932) rfl rfl rfl hd_Mo_order ⟨Nat.le_of_ble_eq_true rfl, Nat.le_of_ble_eq_true rfl⟩) (zw_preV (ci := 7) (q0 := 0) hK hN hPB rfl rfl) rfl rfl hl.1 rfl (lv_room (Nat.le_of_ble_eq_true rfl)) d_La_law_885 ⟨hnc, hns⟩)) (fun rB hw => ?_)
  obtain ⟨hEq, hR⟩ := hw
  refine W.lcmp hx hb d_La_law_888 ?_
  refine lv_if_eq (tgt := 931) hx hb d_La_law_889 (by decide) (fun c9 => ?_) (fun c9 => absurd (zw_lg_eq.mpr hEq) c9)
  exact hg fi fl ai al gi gl bi bl H locs ls hR hPA hPB hD hS hl
theorem d_La_law_894 : decode code 894 = .ok (.aload_n 1, 1) := by decide +kernel
theorem d_La_law_895 : decode code 895 = .ok (.aload_n 0, 1) := by decide +kernel
theorem d_La_law_896 : decode code 896 = .ok (.iload_n 3, 1) := by decide +kernel
theorem d_La_law_897 : decode code 897 = .ok (.iconst 1, 1) := by decide +kernel
theorem d_La_law_898 : decode code 898 = .ok (.iadd, 1) := by decide +kernel
theorem d_La_law_899 : decode code 899 = .ok (.iaload, 1) := by decide +kernel
theorem d_La_law_900 : decode code 900 = .ok (.invokevirtual 119, 3) := by decide +kernel
theorem d_La_law_903 : decode code 903 = .ok (.aload_n 2, 1) := by decide +kernel
theorem d_La_law_904 : decode code 904 = .ok (.aload_n 0, 1) := by decide +kernel
theorem d_La_law_905 : decode code 905 = .ok (.iload_n 3, 1) := by decide +kernel
theorem d_La_law_906 : decode code 906 = .ok (.iconst 1, 1) := by decide +kernel
theorem d_La_law_907 : decode code 907 = .ok (.iadd, 1) := by decide +kernel
theorem d_La_law_908 : decode code 908 = .ok (.iaload, 1) := by decide +kernel
theorem d_La_law_909 : decode code 909 = .ok (.invokevirtual 122, 3) := by decide +kernel
theorem d_La_law_912 : decode code 912 = .ok (.lcmp, 1) := by decide +kernel
theorem d_La_law_913 : decode code 913 = .ok (.ifCond .eq (18), 3) := by decide +kernel
theorem d_La_law_916 : decode code 916 = .ok (.iconst 0, 1) := by decide +kernel
theorem d_La_law_917 : decode code 917 = .ok (.ireturn, 1) := by decide +kernel
set_option maxHeartbeats 4000000 in
set_option maxRecDepth 100000 in
theorem La_c22 {p : Program} {l : Launch} {e : Env} {s : State} {m : MethodId} {below : List Frame} {meth : Method} {c : Code} {b L : Nat} {xs : Nat → Int32} {dC : Nat → ClassId} {dI : Nat → Nat → Nat} {cI cJ cG cZ : ClassId} {a a' : Nat → Nat} {nc ns : Nat} {Rel : zw_Z → zw_Z → Prop} {k : Nat} (hL : L ≤ 2561) (C0 : lw_At p s m meth c b L xs) (hN : zw_N s) (hK : va_K (dC, dI) vwCl [(cI, .int), (cJ, .long), (cG, .array .int), (cZ, .boolean)] s) (hnc : nc ≤ 600000) (hns : ns ≤ 7302250) (hk : k + 5 ≤ L) (hst : st_told Rel) (hg : La_G p l e s m below meth c b dC dI cI cJ cG cZ a a' nc ns Rel 931 k) : La_G p l e s m below meth c b dC dI cI cJ cG cZ a a' nc ns Rel 894 k := by
  obtain ⟨hx, hb, hr, hml, hown0, hts0, hX, hbl, hlocks, hgv⟩ := id C0
  have hown : s.vm.findClass R_La = some m.cls := hown0
  have hA : ∀ q : Nat, s.heap.size ≤ q → (fun q : Nat => s.heap.size ≤ q) q := fun _ h => h
  have hbA : ¬ (fun q : Nat => s.heap.size ≤ q) b := Nat.not_le.mpr hbl
  have ht : ∀ w ∈ zw_tbl, w.before #[Value.ref b] s = true := fun w h => hts0 w (List.mem_filter.mp h).1
  have hts : ∀ w ∈ (Cond.initialized R_La :: zw_tbl), w.before #[Value.ref b] s = true := fun w h => (List.mem_cons.mp h).elim (fun q => q ▸ ht _ kw_0) (ht w)
  intro fi fl ai al gi gl bi bl H locs ls hR hPA hPB hD hS hl
  have h_1 : vp_in (nI k + (1 : Int32)) L := La_in (j := 1) (by omega) hL
  have hw := hst fi fl ai al gi gl bi bl (xs (nI k + (1 : Int32)).toNatClampNeg) hR
  refine lv_aload_n hx hb d_La_law_894 rfl (lv_at hl 1 rfl) ?_
  refine lv_aload_n hx hb d_La_law_895 rfl (lv_at hl 0 rfl) ?_
  refine lv_iload_n hx hb d_La_law_896 rfl (lv_at hl 3 rfl) ?_
  refine lv_iconst (v := (1 : Int32)) hx hb d_La_law_897 (by decide) ?_
  refine lv_iadd hx hb d_La_law_898 ?_
  refine va_sld hx hb hX hbl hbA hS h_1 d_La_law_899 ?_
  refine vp_callSl (va_Run.run (va_runV (As := [.int (xs (nI k + (1 : Int32)).toNatClampNeg)]) (rest := []) ⟨hx, hb, hml, hown, hts⟩ (c_SS_told l dC dI cI cJ cG cZ a fi fl ai al (xs (nI k + (1 : Int32)).toNatClampNeg) _ hw) (cwV 1 hts (zw_goodV kw_596 kw_597 kw_598 kw_1 kw_599) rfl rfl rfl hd_SS_told ⟨Nat.le_of_ble_eq_true rfl, Nat.le_of_ble_eq_true rfl⟩) (zw_preV (ci := 0) (q0 := 0) hK hN hPA rfl rfl) rfl rfl hl.1 rfl (lv_room (Nat.le_of_ble_eq_true rfl)) d_La_law_900 ⟨hnc, hns⟩)) (fun rA hw => ?_)
  refine lv_aload_n hx hb d_La_law_903 rfl (lv_at hl 2 rfl) ?_
  refine lv_aload_n hx hb d_La_law_904 rfl (lv_at hl 0 rfl) ?_
  refine lv_iload_n hx hb d_La_law_905 rfl (lv_at hl 3 rfl) ?_
  refine lv_iconst (v := (1 : Int32)) hx hb d_La_law_906 (by decide) ?_
  refine lv_iadd hx hb d_La_law_907 ?_
  refine va_sld hx hb hX hbl hbA hS h_1 d_La_law_908 ?_
  refine zw_lBl (va_runV (As := [.int (xs (nI k + (1 : Int32)).toNatClampNeg)]) (rest := [.long rA]) ⟨hx, hb, hml, hown, hts⟩ (c_Mo_told l dC dI cI cJ cG cZ a' H.size gi gl bi bl (xs (nI k + (1 : Int32)).toNatClampNeg) _ hw) (cwV 1 hts (zw_goodV kw_933 kw_934 kw_935 kw_9 kw_936) rfl rfl rfl hd_Mo_told ⟨Nat.le_of_ble_eq_true rfl, Nat.le_of_ble_eq_true rfl⟩) (zw_preVw (ci := 7) (q0 := 0) hK hN hPB (zw_DR hD) rfl rfl) rfl rfl hl.1 rfl (lv_room (Nat.le_of_ble_eq_true rfl)) d_La_law_909 ⟨hnc, hns⟩) hPA hD hS hA (fun rB gi' gl' bi' bl' H locs hw hPA hPB hD hS => ?_)
  obtain ⟨rfl, rfl, hw⟩ := hw
  obtain ⟨hEq, hR⟩ := hw
  refine W.lcmp hx hb d_La_law_912 ?_
  refine lv_if_eq (tgt := 931) hx hb d_La_law_913 (by decide) (fun c9 => ?_) (fun c9 => absurd (zw_lg_eq.mpr hEq) c9)
  exact hg fi fl ai al gi' gl bi' bl H locs ls hR hPA hPB hD hS hl
theorem d_La_law_918 : decode code 918 = .ok (.aload_n 1, 1) := by decide +kernel
theorem d_La_law_919 : decode code 919 = .ok (.invokevirtual 123, 3) := by decide +kernel
theorem d_La_law_922 : decode code 922 = .ok (.aload_n 2, 1) := by decide +kernel
theorem d_La_law_923 : decode code 923 = .ok (.invokevirtual 127, 3) := by decide +kernel
theorem d_La_law_926 : decode code 926 = .ok (.if_icmp .eq (5), 3) := by decide +kernel
theorem d_La_law_929 : decode code 929 = .ok (.iconst 0, 1) := by decide +kernel
theorem d_La_law_930 : decode code 930 = .ok (.ireturn, 1) := by decide +kernel
set_option maxHeartbeats 4000000 in
set_option maxRecDepth 100000 in
theorem La_c23 {p : Program} {l : Launch} {e : Env} {s : State} {m : MethodId} {below : List Frame} {meth : Method} {c : Code} {b L : Nat} {xs : Nat → Int32} {dC : Nat → ClassId} {dI : Nat → Nat → Nat} {cI cJ cG cZ : ClassId} {a a' : Nat → Nat} {nc ns : Nat} {Rel : zw_Z → zw_Z → Prop} {k : Nat} (hL : L ≤ 2561) (C0 : lw_At p s m meth c b L xs) (hN : zw_N s) (hK : va_K (dC, dI) vwCl [(cI, .int), (cJ, .long), (cG, .array .int), (cZ, .boolean)] s) (hnc : nc ≤ 600000) (hns : ns ≤ 7302250) (hk : k + 5 ≤ L) (hst : st_check Rel) (hg : La_G p l e s m below meth c b dC dI cI cJ cG cZ a a' nc ns Rel 931 k) : La_G p l e s m below meth c b dC dI cI cJ cG cZ a a' nc ns Rel 918 k := by
  obtain ⟨hx, hb, hr, hml, hown0, hts0, hX, hbl, hlocks, hgv⟩ := id C0
  have hown : s.vm.findClass R_La = some m.cls := hown0
  have hA : ∀ q : Nat, s.heap.size ≤ q → (fun q : Nat => s.heap.size ≤ q) q := fun _ h => h
  have hbA : ¬ (fun q : Nat => s.heap.size ≤ q) b := Nat.not_le.mpr hbl
  have ht : ∀ w ∈ zw_tbl, w.before #[Value.ref b] s = true := fun w h => hts0 w (List.mem_filter.mp h).1
  have hts : ∀ w ∈ (Cond.initialized R_La :: zw_tbl), w.before #[Value.ref b] s = true := fun w h => (List.mem_cons.mp h).elim (fun q => q ▸ ht _ kw_0) (ht w)
  intro fi fl ai al gi gl bi bl H locs ls hR hPA hPB hD hS hl
  have hw := hst fi fl ai al gi gl bi bl hR
  refine lv_aload_n hx hb d_La_law_918 rfl (lv_at hl 1 rfl) ?_
  refine zw_lAi (va_runV (As := []) (rest := []) ⟨hx, hb, hml, hown, hts⟩ (c_SS_check l dC dI cI cJ cG cZ a H.size fi fl ai al _ hw) (cwV 0 hts (zw_goodV kw_600 kw_601 kw_602 kw_1 kw_603) rfl rfl rfl hd_SS_check ⟨Nat.le_of_ble_eq_true rfl, Nat.le_of_ble_eq_true rfl⟩) (zw_preVw (ci := 0) (q0 := 0) hK hN hPA (zw_DL hD) rfl rfl) rfl rfl hl.1 rfl (lv_room (Nat.le_of_ble_eq_true rfl)) d_La_law_919 ⟨hnc, hns⟩) hPB hD hS hA (fun rA fi' fl' ai' al' H locs hw hPA hPB hD hS => ?_)
  obtain ⟨rfl, hw⟩ := hw
  refine lv_aload_n hx hb d_La_law_922 rfl (lv_at hl 2 rfl) ?_
  refine vp_callSi (va_Run.run (va_runV (As := []) (rest := [.int rA]) ⟨hx, hb, hml, hown, hts⟩ (c_Mo_check l dC dI cI cJ cG cZ a' gi gl bi bl _ hw) (cwV 0 hts (zw_goodV kw_937 kw_938 kw_939 kw_9 kw_940) rfl rfl rfl hd_Mo_check ⟨Nat.le_of_ble_eq_true rfl, Nat.le_of_ble_eq_true rfl⟩) (zw_preV (ci := 7) (q0 := 0) hK hN hPB rfl rfl) rfl rfl hl.1 rfl (lv_room (Nat.le_of_ble_eq_true rfl)) d_La_law_923 ⟨hnc, hns⟩)) (fun rB hw => ?_)
  obtain ⟨hEq, hR⟩ := hw
  refine lv_icmp_eq (tgt := 931) hx hb d_La_law_926 (by decide) (fun c9 => ?_) (fun c9 => absurd hEq c9)
  exact hg fi' fl ai' al' gi gl bi bl H locs ls hR hPA hPB hD hS hl
