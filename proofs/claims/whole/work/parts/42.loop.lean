theorem d_La_law_0 : decode code 0 = .ok (.new 7, 3) := by decide +kernel
theorem d_La_law_3 : decode code 3 = .ok (.dup, 1) := by decide +kernel
theorem d_La_law_4 : decode code 4 = .ok (.aload_n 0, 1) := by decide +kernel
theorem d_La_law_5 : decode code 5 = .ok (.iconst 0, 1) := by decide +kernel
theorem d_La_law_6 : decode code 6 = .ok (.invokestatic 9, 3) := by decide +kernel
theorem d_La_law_9 : decode code 9 = .ok (.invokespecial 15, 3) := by decide +kernel
theorem d_La_law_12 : decode code 12 = .ok (.astore_n 1, 1) := by decide +kernel
theorem d_La_law_13 : decode code 13 = .ok (.new 18, 3) := by decide +kernel
theorem d_La_law_16 : decode code 16 = .ok (.dup, 1) := by decide +kernel
theorem d_La_law_17 : decode code 17 = .ok (.aload_n 0, 1) := by decide +kernel
theorem d_La_law_18 : decode code 18 = .ok (.iconst 0, 1) := by decide +kernel
theorem d_La_law_19 : decode code 19 = .ok (.invokestatic 9, 3) := by decide +kernel
theorem d_La_law_22 : decode code 22 = .ok (.invokespecial 20, 3) := by decide +kernel
theorem d_La_law_25 : decode code 25 = .ok (.astore_n 2, 1) := by decide +kernel
theorem d_La_law_26 : decode code 26 = .ok (.iconst 1, 1) := by decide +kernel
theorem d_La_law_27 : decode code 27 = .ok (.istore_n 3, 1) := by decide +kernel
theorem d_La_law_28 : decode code 28 = .ok (.iload_n 3, 1) := by decide +kernel
theorem d_La_law_29 : decode code 29 = .ok (.aload_n 0, 1) := by decide +kernel
theorem d_La_law_30 : decode code 30 = .ok (.arraylength, 1) := by decide +kernel
theorem d_La_law_31 : decode code 31 = .ok (.iconst 5, 1) := by decide +kernel
theorem d_La_law_32 : decode code 32 = .ok (.isub, 1) := by decide +kernel
theorem d_La_law_33 : decode code 33 = .ok (.if_icmp .gt (904), 3) := by decide +kernel
theorem d_La_law_36 : decode code 36 = .ok (.aload_n 0, 1) := by decide +kernel
theorem d_La_law_37 : decode code 37 = .ok (.iload_n 3, 1) := by decide +kernel
theorem d_La_law_38 : decode code 38 = .ok (.iaload, 1) := by decide +kernel
theorem d_La_law_39 : decode code 39 = .ok (.bipush (31), 2) := by decide +kernel
theorem d_La_law_41 : decode code 41 = .ok (.iand, 1) := by decide +kernel
theorem d_La_law_42 : decode code 42 = .ok (.tableswitch (889) (0) (23) #[110, 153, 206, 249, 292, 325, 358, 382, 405, 438, 487, 510, 544, 578, 612, 656, 679, 733, 757, 790, 814, 828, 852, 876], 110) := by decide +kernel
theorem d_La_law_931 : decode code 931 = .ok (.iinc 3 (5), 3) := by decide +kernel
theorem d_La_law_934 : decode code 934 = .ok (.goto (-906), 3) := by decide +kernel
theorem d_La_law_937 : decode code 937 = .ok (.iconst 1, 1) := by decide +kernel
theorem d_La_law_938 : decode code 938 = .ok (.ireturn, 1) := by decide +kernel
def st_all (Rel : zw_Z → zw_Z → Prop) : Prop := st_part Rel ∧ st_flex Rel ∧ st_share Rel ∧ st_release Rel ∧ st_creep Rel ∧ st_after Rel ∧ st_stage Rel ∧ st_add Rel ∧ st_load Rel ∧ st_support Rel ∧ st_end Rel ∧ st_level Rel ∧ st_of Rel ∧ st_carries Rel ∧ st_survey Rel ∧ st_most Rel ∧ st_rule Rel ∧ st_broken Rel ∧ st_shift Rel ∧ st_redo Rel ∧ st_best Rel ∧ st_order Rel ∧ st_told Rel ∧ st_check Rel
set_option maxHeartbeats 4000000 in
set_option maxRecDepth 100000 in
theorem La_sw {p : Program} {l : Launch} {e : Env} {s : State} {m : MethodId} {below : List Frame} {meth : Method} {c : Code} {b L : Nat} {xs : Nat → Int32} {dC : Nat → ClassId} {dI : Nat → Nat → Nat} {cI cJ cG cZ : ClassId} {a a' : Nat → Nat} {nc ns : Nat} {Rel : zw_Z → zw_Z → Prop} {k : Nat} (hL : L ≤ 2561) (C0 : lw_At p s m meth c b L xs) (hN : zw_N s) (hK : va_K (dC, dI) vwCl [(cI, .int), (cJ, .long), (cG, .array .int), (cZ, .boolean)] s) (hnc : nc ≤ 600000) (hns : ns ≤ 7302250) (hk : k + 5 ≤ L) (hst : st_all Rel) (hg : La_G p l e s m below meth c b dC dI cI cJ cG cZ a a' nc ns Rel 931 k) {x : Int32} (hx3 : ∃ j : Nat, j < 32 ∧ x = nI j) (fi : Nat → Int32) (fl : Nat → Int64) (ai : Nat → Nat → Int32) (al : Nat → Nat → Int64) (gi : Nat → Int32) (gl : Nat → Int64) (bi : Nat → Nat → Int32) (bl : Nat → Nat → Int64) (H : Heap) (locs : List Loc) (ls : Array Slot) (hR : Rel (fi, fl, ai, al) (gi, gl, bi, bl)) (hPA : va_P (dC, dI) vwCl (cw cI cJ cG cZ a fi fl ai al) H) (hPB : va_P (dC, dI) vwCl (mw cI cJ cG cZ a' gi gl bi bl) H) (hD : va_D (fun q : Nat => s.heap.size ≤ q) (cw cI cJ cG cZ a fi fl ai al ++ mw cI cJ cG cZ a' gi gl bi bl)) (hS : va_S (fun q : Nat => s.heap.size ≤ q) s.heap H locs) (hl : lv_has ls 4 [(0, .ref b), (1, .ref (a 0)), (2, .ref (a' 0)), (3, .int (nI k))]) : W p l e room_1 s m #[Value.ref b] below meth c H locs nc ns (lw_Z below #[Value.ref b] s) (F0 m 42 ls [.int x]) := by
  obtain ⟨hx, hb, hr, hml, hown0, hts0, hX, hbl, hlocks, hgv⟩ := id C0
  have hown : s.vm.findClass R_La = some m.cls := hown0
  have hA : ∀ q : Nat, s.heap.size ≤ q → (fun q : Nat => s.heap.size ≤ q) q := fun _ h => h
  have hbA : ¬ (fun q : Nat => s.heap.size ≤ q) b := Nat.not_le.mpr hbl
  have ht : ∀ w ∈ zw_tbl, w.before #[Value.ref b] s = true := fun w h => hts0 w (List.mem_filter.mp h).1
  have hts : ∀ w ∈ (Cond.initialized R_La :: zw_tbl), w.before #[Value.ref b] s = true := fun w h => (List.mem_cons.mp h).elim (fun q => q ▸ ht _ kw_0) (ht w)
  obtain ⟨s0, s1, s2, s3, s4, s5, s6, s7, s8, s9, s10, s11, s12, s13, s14, s15, s16, s17, s18, s19, s20, s21, s22, s23⟩ := hst
  obtain ⟨j, hj, rfl⟩ := hx3
  match j, hj with
  | 0, _ =>
    refine lv_tableIn (off := 110) (tgt := 152) hx hb d_La_law_42 (by decide) (by decide) (by rfl) (by decide) ?_
    exact La_c0 hL C0 hN hK hnc hns hk s0 hg fi fl ai al gi gl bi bl H locs ls hR hPA hPB hD hS hl
  | 1, _ =>
    refine lv_tableIn (off := 153) (tgt := 195) hx hb d_La_law_42 (by decide) (by decide) (by rfl) (by decide) ?_
    exact La_c1 hL C0 hN hK hnc hns hk s1 hg fi fl ai al gi gl bi bl H locs ls hR hPA hPB hD hS hl
  | 2, _ =>
    refine lv_tableIn (off := 206) (tgt := 248) hx hb d_La_law_42 (by decide) (by decide) (by rfl) (by decide) ?_
    exact La_c2 hL C0 hN hK hnc hns hk s2 hg fi fl ai al gi gl bi bl H locs ls hR hPA hPB hD hS hl
  | 3, _ =>
    refine lv_tableIn (off := 249) (tgt := 291) hx hb d_La_law_42 (by decide) (by decide) (by rfl) (by decide) ?_
    exact La_c3 hL C0 hN hK hnc hns hk s3 hg fi fl ai al gi gl bi bl H locs ls hR hPA hPB hD hS hl
  | 4, _ =>
    refine lv_tableIn (off := 292) (tgt := 334) hx hb d_La_law_42 (by decide) (by decide) (by rfl) (by decide) ?_
    exact La_c4 hL C0 hN hK hnc hns hk s4 hg fi fl ai al gi gl bi bl H locs ls hR hPA hPB hD hS hl
  | 5, _ =>
    refine lv_tableIn (off := 325) (tgt := 367) hx hb d_La_law_42 (by decide) (by decide) (by rfl) (by decide) ?_
    exact La_c5 hL C0 hN hK hnc hns hk s5 hg fi fl ai al gi gl bi bl H locs ls hR hPA hPB hD hS hl
  | 6, _ =>
    refine lv_tableIn (off := 358) (tgt := 400) hx hb d_La_law_42 (by decide) (by decide) (by rfl) (by decide) ?_
    exact La_c6 hL C0 hN hK hnc hns hk s6 hg fi fl ai al gi gl bi bl H locs ls hR hPA hPB hD hS hl
  | 7, _ =>
    refine lv_tableIn (off := 382) (tgt := 424) hx hb d_La_law_42 (by decide) (by decide) (by rfl) (by decide) ?_
    exact La_c7 hL C0 hN hK hnc hns hk s7 hg fi fl ai al gi gl bi bl H locs ls hR hPA hPB hD hS hl
  | 8, _ =>
    refine lv_tableIn (off := 405) (tgt := 447) hx hb d_La_law_42 (by decide) (by decide) (by rfl) (by decide) ?_
    exact La_c8 hL C0 hN hK hnc hns hk s8 hg fi fl ai al gi gl bi bl H locs ls hR hPA hPB hD hS hl
  | 9, _ =>
    refine lv_tableIn (off := 438) (tgt := 480) hx hb d_La_law_42 (by decide) (by decide) (by rfl) (by decide) ?_
    exact La_c9 hL C0 hN hK hnc hns hk s9 hg fi fl ai al gi gl bi bl H locs ls hR hPA hPB hD hS hl
  | 10, _ =>
    refine lv_tableIn (off := 487) (tgt := 529) hx hb d_La_law_42 (by decide) (by decide) (by rfl) (by decide) ?_
    exact La_c10 hL C0 hN hK hnc hns hk s10 hg fi fl ai al gi gl bi bl H locs ls hR hPA hPB hD hS hl
  | 11, _ =>
    refine lv_tableIn (off := 510) (tgt := 552) hx hb d_La_law_42 (by decide) (by decide) (by rfl) (by decide) ?_
    exact La_c11 hL C0 hN hK hnc hns hk s11 hg fi fl ai al gi gl bi bl H locs ls hR hPA hPB hD hS hl
  | 12, _ =>
    refine lv_tableIn (off := 544) (tgt := 586) hx hb d_La_law_42 (by decide) (by decide) (by rfl) (by decide) ?_
    exact La_c12 hL C0 hN hK hnc hns hk s12 hg fi fl ai al gi gl bi bl H locs ls hR hPA hPB hD hS hl
  | 13, _ =>
    refine lv_tableIn (off := 578) (tgt := 620) hx hb d_La_law_42 (by decide) (by decide) (by rfl) (by decide) ?_
    exact La_c13 hL C0 hN hK hnc hns hk s13 hg fi fl ai al gi gl bi bl H locs ls hR hPA hPB hD hS hl
  | 14, _ =>
    refine lv_tableIn (off := 612) (tgt := 654) hx hb d_La_law_42 (by decide) (by decide) (by rfl) (by decide) ?_
    exact La_c14 hL C0 hN hK hnc hns hk s14 hg fi fl ai al gi gl bi bl H locs ls hR hPA hPB hD hS hl
  | 15, _ =>
    refine lv_tableIn (off := 656) (tgt := 698) hx hb d_La_law_42 (by decide) (by decide) (by rfl) (by decide) ?_
    exact La_c15 hL C0 hN hK hnc hns hk s15 hg fi fl ai al gi gl bi bl H locs ls hR hPA hPB hD hS hl
  | 16, _ =>
    refine lv_tableIn (off := 679) (tgt := 721) hx hb d_La_law_42 (by decide) (by decide) (by rfl) (by decide) ?_
    exact La_c16 hL C0 hN hK hnc hns hk s16 hg fi fl ai al gi gl bi bl H locs ls hR hPA hPB hD hS hl
  | 17, _ =>
    refine lv_tableIn (off := 733) (tgt := 775) hx hb d_La_law_42 (by decide) (by decide) (by rfl) (by decide) ?_
    exact La_c17 hL C0 hN hK hnc hns hk s17 hg fi fl ai al gi gl bi bl H locs ls hR hPA hPB hD hS hl
  | 18, _ =>
    refine lv_tableIn (off := 757) (tgt := 799) hx hb d_La_law_42 (by decide) (by decide) (by rfl) (by decide) ?_
    exact La_c18 hL C0 hN hK hnc hns hk s18 hg fi fl ai al gi gl bi bl H locs ls hR hPA hPB hD hS hl
  | 19, _ =>
    refine lv_tableIn (off := 790) (tgt := 832) hx hb d_La_law_42 (by decide) (by decide) (by rfl) (by decide) ?_
    exact La_c19 hL C0 hN hK hnc hns hk s19 hg fi fl ai al gi gl bi bl H locs ls hR hPA hPB hD hS hl
  | 20, _ =>
    refine lv_tableIn (off := 814) (tgt := 856) hx hb d_La_law_42 (by decide) (by decide) (by rfl) (by decide) ?_
    exact La_c20 hL C0 hN hK hnc hns hk s20 hg fi fl ai al gi gl bi bl H locs ls hR hPA hPB hD hS hl
  | 21, _ =>
    refine lv_tableIn (off := 828) (tgt := 870) hx hb d_La_law_42 (by decide) (by decide) (by rfl) (by decide) ?_
    exact La_c21 hL C0 hN hK hnc hns hk s21 hg fi fl ai al gi gl bi bl H locs ls hR hPA hPB hD hS hl
  | 22, _ =>
    refine lv_tableIn (off := 852) (tgt := 894) hx hb d_La_law_42 (by decide) (by decide) (by rfl) (by decide) ?_
    exact La_c22 hL C0 hN hK hnc hns hk s22 hg fi fl ai al gi gl bi bl H locs ls hR hPA hPB hD hS hl
  | 23, _ =>
    refine lv_tableIn (off := 876) (tgt := 918) hx hb d_La_law_42 (by decide) (by decide) (by rfl) (by decide) ?_
    exact La_c23 hL C0 hN hK hnc hns hk s23 hg fi fl ai al gi gl bi bl H locs ls hR hPA hPB hD hS hl
  | j + 24, hj =>
    refine lv_tableOut (tgt := 931) hx hb d_La_law_42 (Or.inr (by rw [nI_toInt (by omega)]; omega)) (by decide) ?_
    exact hg fi fl ai al gi gl bi bl H locs ls hR hPA hPB hD hS hl
set_option maxHeartbeats 4000000 in
set_option maxRecDepth 100000 in
theorem La_back {p : Program} {l : Launch} {e : Env} {s : State} {m : MethodId} {below : List Frame} {meth : Method} {c : Code} {b L : Nat} {xs : Nat → Int32} {dC : Nat → ClassId} {dI : Nat → Nat → Nat} {cI cJ cG cZ : ClassId} {a a' : Nat → Nat} {nc ns : Nat} {Rel : zw_Z → zw_Z → Prop} {k : Nat} (hL : L ≤ 2561) (C0 : lw_At p s m meth c b L xs) (hN : zw_N s) (hK : va_K (dC, dI) vwCl [(cI, .int), (cJ, .long), (cG, .array .int), (cZ, .boolean)] s) (hnc : nc ≤ 600000) (hns : ns ≤ 7302250) (hk : k + 5 ≤ L) (hg : La_G p l e s m below meth c b dC dI cI cJ cG cZ a a' nc ns Rel 28 (k + 5)) : La_G p l e s m below meth c b dC dI cI cJ cG cZ a a' nc ns Rel 931 k := by
  obtain ⟨hx, hb, hr, hml, hown0, hts0, hX, hbl, hlocks, hgv⟩ := id C0
  have hown : s.vm.findClass R_La = some m.cls := hown0
  have hA : ∀ q : Nat, s.heap.size ≤ q → (fun q : Nat => s.heap.size ≤ q) q := fun _ h => h
  have hbA : ¬ (fun q : Nat => s.heap.size ≤ q) b := Nat.not_le.mpr hbl
  have ht : ∀ w ∈ zw_tbl, w.before #[Value.ref b] s = true := fun w h => hts0 w (List.mem_filter.mp h).1
  have hts : ∀ w ∈ (Cond.initialized R_La :: zw_tbl), w.before #[Value.ref b] s = true := fun w h => (List.mem_cons.mp h).elim (fun q => q ▸ ht _ kw_0) (ht w)
  intro fi fl ai al gi gl bi bl H locs ls hR hPA hPB hD hS hl
  refine lv_iinc (v := nI (k + 5)) (lv' := [(3, .int (nI (k + 5))), (0, .ref b), (1, .ref (a 0)), (2, .ref (a' 0))]) hx hb d_La_law_931 hl (k := 3) rfl (by rw [← nI_add]; rfl) (by decide) rfl (fun ls hl => ?_)
  refine lv_goto (tgt := 28) hx hb d_La_law_934 (by decide) ?_
  exact hg fi fl ai al gi gl bi bl H locs ls hR hPA hPB hD hS (lv_sub hl [1, 2, 3, 0] rfl)
set_option maxHeartbeats 4000000 in
set_option maxRecDepth 100000 in
theorem La_loop {p : Program} {l : Launch} {e : Env} {s : State} {m : MethodId} {below : List Frame} {meth : Method} {c : Code} {b L : Nat} {xs : Nat → Int32} {dC : Nat → ClassId} {dI : Nat → Nat → Nat} {cI cJ cG cZ : ClassId} {a a' : Nat → Nat} {nc ns : Nat} {Rel : zw_Z → zw_Z → Prop} (hL : L ≤ 2561) (C0 : lw_At p s m meth c b L xs) (hN : zw_N s) (hK : va_K (dC, dI) vwCl [(cI, .int), (cJ, .long), (cG, .array .int), (cZ, .boolean)] s) (hnc : nc ≤ 600000) (hns : ns ≤ 7302250) (hst : st_all Rel) (n : Nat) : ∀ k : Nat, k ≤ L + 5 → L + 5 - k < n → La_G p l e s m below meth c b dC dI cI cJ cG cZ a a' nc ns Rel 28 k := by
  obtain ⟨hx, hb, hr, hml, hown0, hts0, hX, hbl, hlocks, hgv⟩ := id C0
  have hown : s.vm.findClass R_La = some m.cls := hown0
  have hA : ∀ q : Nat, s.heap.size ≤ q → (fun q : Nat => s.heap.size ≤ q) q := fun _ h => h
  have hbA : ¬ (fun q : Nat => s.heap.size ≤ q) b := Nat.not_le.mpr hbl
  have ht : ∀ w ∈ zw_tbl, w.before #[Value.ref b] s = true := fun w h => hts0 w (List.mem_filter.mp h).1
  have hts : ∀ w ∈ (Cond.initialized R_La :: zw_tbl), w.before #[Value.ref b] s = true := fun w h => (List.mem_cons.mp h).elim (fun q => q ▸ ht _ kw_0) (ht w)
  induction n with
  | zero => intro k _ h; omega
  | succ n ih =>
    intro k hk1 hn fi fl ai al gi gl bi bl H locs ls hR hPA hPB hD hS hl
    refine lv_iload_n hx hb d_La_law_28 rfl (lv_at hl 3 rfl) ?_
    refine lv_aload_n hx hb d_La_law_29 rfl (lv_at hl 0 rfl) ?_
    refine va_slen hx hb hX hbl hbA hS d_La_law_30 ?_
    refine lv_iconst (v := (5 : Int32)) hx hb d_La_law_31 (by decide) ?_
    refine lv_isub hx hb d_La_law_32 ?_
    refine lv_icmp_gt (tgt := 937) hx hb d_La_law_33 (by decide) (fun c33 => ?_) (fun c33 => ?_)
    · refine lv_iconst (v := (1 : Int32)) hx hb d_La_law_937 (by decide) ?_
      refine va_forget (fun q h => hS.2.2 q h) ?_
      refine W.widen (k := 600000) (n := 7302250) hnc hns ?_
      exact lw_ret hx hb hr hlocks d_La_law_938
    · have hk : k + 5 ≤ L := La_le hL (by omega) c33
      refine lv_aload_n hx hb d_La_law_36 rfl (lv_at hl 0 rfl) ?_
      refine lv_iload_n hx hb d_La_law_37 rfl (lv_at hl 3 rfl) ?_
      refine va_sld hx hb hX hbl hbA hS (vp_in_nI (show k < L by omega) (by omega)) d_La_law_38 ?_
      refine lv_bipush (v := (31 : Int32)) hx hb d_La_law_39 (by decide) ?_
      refine lv_iand hx hb d_La_law_41 ?_
      exact La_sw hL C0 hN hK hnc hns hk hst (La_back hL C0 hN hK hnc hns hk (ih (k + 5) (by omega) (by omega))) (pk_andE _ 5 (by decide)) fi fl ai al gi gl bi bl H locs ls hR hPA hPB hD hS hl
