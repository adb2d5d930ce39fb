def SS_firstBroken_w (fi : Nat → Int32) (fl : Nat → Int64) (ai : Nat → Nat → Int32) (al : Nat → Nat → Int64) (p0 : Int32) (K : Int32 → Prop) : Prop :=
  zw_nm (0 : Int32) (fun (v1 : Int32) =>
  zw_lp1 (fun L2 (x2_2 : Int32) =>
  if (fi 6) ≤ x2_2 then (
    K (-1 : Int32))
  else (
    SS_isBroken_w fi fl ai al x2_2 p0 (fun (r16 : Int32) =>
    if r16 = 0 then (
      zw_nm (x2_2 + (1 : Int32)) (fun (v24 : Int32) =>
      L2 v24))
    else (
      K x2_2)))) v1)
theorem d_SS_firstBroken_0 : decode b_SS_firstBroken 0 = .ok (.iconst 0, 1) := by decide +kernel
theorem d_SS_firstBroken_1 : decode b_SS_firstBroken 1 = .ok (.istore_n 2, 1) := by decide +kernel
theorem d_SS_firstBroken_2 : decode b_SS_firstBroken 2 = .ok (.iload_n 2, 1) := by decide +kernel
theorem d_SS_firstBroken_3 : decode b_SS_firstBroken 3 = .ok (.aload_n 0, 1) := by decide +kernel
theorem d_SS_firstBroken_4 : decode b_SS_firstBroken 4 = .ok (.getfield 26, 3) := by decide +kernel
theorem d_SS_firstBroken_7 : decode b_SS_firstBroken 7 = .ok (.getfield 206, 3) := by decide +kernel
theorem d_SS_firstBroken_10 : decode b_SS_firstBroken 10 = .ok (.if_icmp .ge (20), 3) := by decide +kernel
theorem d_SS_firstBroken_13 : decode b_SS_firstBroken 13 = .ok (.aload_n 0, 1) := by decide +kernel
theorem d_SS_firstBroken_14 : decode b_SS_firstBroken 14 = .ok (.iload_n 2, 1) := by decide +kernel
theorem d_SS_firstBroken_15 : decode b_SS_firstBroken 15 = .ok (.iload_n 1, 1) := by decide +kernel
theorem d_SS_firstBroken_16 : decode b_SS_firstBroken 16 = .ok (.invokevirtual 275, 3) := by decide +kernel
theorem d_SS_firstBroken_19 : decode b_SS_firstBroken 19 = .ok (.ifCond .eq (5), 3) := by decide +kernel
theorem d_SS_firstBroken_22 : decode b_SS_firstBroken 22 = .ok (.iload_n 2, 1) := by decide +kernel
theorem d_SS_firstBroken_23 : decode b_SS_firstBroken 23 = .ok (.ireturn, 1) := by decide +kernel
theorem d_SS_firstBroken_24 : decode b_SS_firstBroken 24 = .ok (.iinc 2 (1), 3) := by decide +kernel
theorem d_SS_firstBroken_27 : decode b_SS_firstBroken 27 = .ok (.goto (-25), 3) := by decide +kernel
theorem d_SS_firstBroken_30 : decode b_SS_firstBroken 30 = .ok (.iconst (-1), 1) := by decide +kernel
theorem d_SS_firstBroken_31 : decode b_SS_firstBroken 31 = .ok (.ireturn, 1) := by decide +kernel
set_option maxHeartbeats 4000000 in
set_option maxRecDepth 100000 in
theorem c_SS_firstBroken (l : Launch) (dC : Nat → ClassId) (dI : Nat → Nat → Nat) (cI cJ cG cZ : ClassId) (a : Nat → Nat) (fi : Nat → Int32) (fl : Nat → Int64) (ai : Nat → Nat → Int32) (al : Nat → Nat → Int64) (p0 : Int32) (K : Int32 → Prop) (hw : SS_firstBroken_w fi fl ai al p0 K) : Met l y_SS_firstBroken ws_SS_firstBroken ({ frames := 4, cells := 0, slots := 0, locals := 90 }) (va_Pc [.ref (a 0), .int p0] (zw_B (dC, dI) vwCl [(cI, .int), (cJ, .long), (cG, .array .int), (cZ, .boolean)] (cw cI cJ cG cZ a fi fl ai al))) (vp_Si K) 0 0 (fun _ => False) := by
  refine Met.ofW (cc := b_SS_firstBroken) (maxL := 3) (ret := (Option.some FieldType.int)) (by decide) rfl ?_
  intro p e s m args below meth c s₁ B hml hv
  obtain ⟨rfl, hP, hK, hN⟩ := hv
  have hx := B.exec
  have hb := B.bytes
  have hr := B.returns
  have hts := atoms_spec (ws := ws_SS_firstBroken) B.pre
  have ht : ∀ w ∈ zw_tbl, w.before _ s = true := fun w h => hts w (List.mem_cons_of_mem _ h)
  have hown : s.vm.findClass R_SS = some m.cls := findClass_of_methodNamed B.named
  have hlocks := B.notSynchronized
  have hl := lv_entry ([.ref (a 0), .int p0] : List Value) (n := 3) (Nat.le_of_ble_eq_true rfl)
  rw [lg_entry_eq]
  generalize (lg_sl ([.ref (a 0), .int p0] : List Value) ++ List.replicate (3 - (lg_sl ([.ref (a 0), .int p0] : List Value)).length) Slot.unset).toArray = ls at hl ⊢
  have hl : lv_has ls 3 [(0, .ref (a 0)), (1, .int p0)] := hl
  unfold SS_firstBroken_w at hw
  refine lv_iconst (v := (0 : Int32)) hx hb d_SS_firstBroken_0 (by decide) ?_
  refine lv_topi (fun v1 ev1 => ?_)
  have hw := zw_nm_x ev1 hw
  refine lv_istore_n (lv' := [(2, .int v1), (0, .ref (a 0)), (1, .int p0)]) hx hb d_SS_firstBroken_1 rfl hl (by decide) rfl (fun ls hl => ?_)
  refine (zw_lp1_i (P := fun (x2_2 : Int32) => ∀ (ls : Array Slot), lv_has ls 3 [(0, .ref (a 0)), (1, .int p0), (2, .int x2_2)] → W p l e (headSpec ws_SS_firstBroken ({ frames := 4, cells := 0, slots := 0, locals := 90 })).room s m ([.ref (a 0), .int p0] : List Value).toArray below meth c s.heap [] 0 0 (MQ below (vp_Si K) ([.ref (a 0), .int p0] : List Value).toArray s 0 0 (fun _ => False)) (F0 m 2 ls [])) hw (fun L2 x2_2 ih2 hw ls hl => ?_)) ls (lv_sub hl [1, 2, 0] rfl)
  refine lv_iload_n hx hb d_SS_firstBroken_2 rfl (lv_at hl 2 rfl) ?_
  refine lv_aload_n hx hb d_SS_firstBroken_3 rfl (lv_at hl 0 rfl) ?_
  refine va_get (D := (dC, dI)) (ci := 0) (v := .ref (a 12)) (C := R_SS) (T := T_SS) (N := 9) hx hb ht in_SS hown hK hP 0 rfl rfl 3 (by decide) (ht _ kw_245) (fun _ h9 => h9) rfl d_SS_firstBroken_4 ?_
  refine va_get (D := (dC, dI)) (ci := 4) (v := .int (fi 6)) (C := R_Ru) (T := T_Ru) (N := 5) hx hb ht in_Ru hown hK hP 12 rfl rfl 4 (by decide) (ht _ kw_108) (fun _ h9 => h9) rfl d_SS_firstBroken_7 ?_
  refine lv_icmp_ge (tgt := 30) hx hb d_SS_firstBroken_10 (by decide) (fun c10 => ?_) (fun c10 => ?_)
  · have hw := zw_ite_t c10 hw
    refine lv_iconst (v := (-1 : Int32)) hx hb d_SS_firstBroken_30 (by decide) ?_
    exact W.iret (v := (-1 : Int32)) hx hb hr (fun t ht hW => ⟨(-1 : Int32), rfl, hw, ht⟩) t_nil d_SS_firstBroken_31
  · have hw := zw_ite_f c10 hw
    refine lv_aload_n hx hb d_SS_firstBroken_13 rfl (lv_at hl 0 rfl) ?_
    refine lv_iload_n hx hb d_SS_firstBroken_14 rfl (lv_at hl 2 rfl) ?_
    refine lv_iload_n hx hb d_SS_firstBroken_15 rfl (lv_at hl 1 rfl) ?_
    refine vp_callSi (va_Run.run (va_runV (As := [.int x2_2, .int p0]) (rest := []) ⟨hx, hb, hml, hown, hts⟩ (c_SS_isBroken l dC dI cI cJ cG cZ a fi fl ai al x2_2 p0 _ hw) (cwV 2 hts (zw_goodV kw_528 kw_530 kw_s13 kw_1 kw_531) rfl rfl rfl hd_SS_isBroken ⟨Nat.le_of_ble_eq_true rfl, Nat.le_of_ble_eq_true rfl⟩) (zw_preV (ci := 0) (q0 := 0) hK hN hP rfl rfl) rfl rfl hl.1 rfl (lv_room (Nat.le_of_ble_eq_true rfl)) d_SS_firstBroken_16 ⟨Nat.le_of_ble_eq_true rfl, Nat.le_of_ble_eq_true rfl⟩)) (fun r16 hw => ?_)
    refine lv_if_eq (tgt := 24) hx hb d_SS_firstBroken_19 (by decide) (fun c19 => ?_) (fun c19 => ?_)
    · have hw := zw_ite_t c19 hw
      obtain ⟨v24, ev24⟩ : ∃ y : Int32, y = x2_2 + (1 : Int32) := ⟨_, rfl⟩
      refine lv_iinc (v := v24) (lv' := [(2, .int v24), (0, .ref (a 0)), (1, .int p0)]) hx hb d_SS_firstBroken_24 hl (k := 2) rfl (by rw [ev24]; rfl) (by decide) rfl (fun ls hl => ?_)
      have hw := zw_nm_x ev24 hw
      refine lv_goto (tgt := 2) hx hb d_SS_firstBroken_27 (by decide) ?_
      exact (ih2 v24 hw) ls (lv_sub hl [1, 2, 0] rfl)
    · have hw := zw_ite_f c19 hw
      refine lv_iload_n hx hb d_SS_firstBroken_22 rfl (lv_at hl 2 rfl) ?_
      exact W.iret (v := x2_2) hx hb hr (fun t ht hW => ⟨x2_2, rfl, hw, ht⟩) t_nil d_SS_firstBroken_23
def SS_broken_w (fi : Nat → Int32) (fl : Nat → Int64) (ai : Nat → Nat → Int32) (al : Nat → Nat → Int64) (p0 : Int32) (K : Int64 → (Nat → Int32) → (Nat → Nat → Int32) → (Nat → Nat → Int64) → Prop) : Prop :=
  zw_jn0 (
  SS_castAll_w fi fl ai al  (fun (fi_14 : Nat → Int32) (ai_14 : Nat → Nat → Int32) (al_14 : Nat → Nat → Int64) =>
  zw_nm (0 : Int32) (fun (v18 : Int32) =>
  zw_lp4 (fun L19 (x19_2 : Int32) (fi19 : Nat → Int32) (ai19 : Nat → Nat → Int32) (al19 : Nat → Nat → Int64) =>
  if (fi19 2) ≤ x19_2 then (
    K (-1000000000000000000 : Int64) fi19 ai19 al19)
  else (
    SS_walkTo_w fi19 fl ai19 al19 x19_2 (fun (fi_32 : Nat → Int32) (ai_32 : Nat → Nat → Int32) (al_32 : Nat → Nat → Int64) =>
    SS_firstBroken_w fi_32 fl ai_32 al_32 x19_2 (fun (r37 : Int32) =>
    if r37 < 0 then (
      zw_nm (x19_2 + (1 : Int32)) (fun (v57 : Int32) =>
      L19 v57 fi_32 ai_32 al_32))
    else (
      if p0 = 0 then (
        K x19_2.toInt64 fi_32 ai_32 al_32)
      else (
        K r37.toInt64 fi_32 ai_32 al_32)))))) v18 fi_14 ai_14 al_14))) (fun J13 =>
  if p0 = 0 then (
    J13)
  else (
    if p0 = (1 : Int32) then (
      J13)
    else (
      K (-1000000000000000000 : Int64) fi ai al)))
theorem d_SS_broken_0 : decode b_SS_broken 0 = .ok (.iload_n 1, 1) := by decide +kernel
theorem d_SS_broken_1 : decode b_SS_broken 1 = .ok (.ifCond .eq (12), 3) := by decide +kernel
theorem d_SS_broken_4 : decode b_SS_broken 4 = .ok (.iload_n 1, 1) := by decide +kernel
theorem d_SS_broken_5 : decode b_SS_broken 5 = .ok (.iconst 1, 1) := by decide +kernel
theorem d_SS_broken_6 : decode b_SS_broken 6 = .ok (.if_icmp .eq (7), 3) := by decide +kernel
theorem d_SS_broken_9 : decode b_SS_broken 9 = .ok (.ldc2_w 128, 3) := by decide +kernel
theorem d_SS_broken_12 : decode b_SS_broken 12 = .ok (.lreturn, 1) := by decide +kernel
theorem d_SS_broken_13 : decode b_SS_broken 13 = .ok (.aload_n 0, 1) := by decide +kernel
theorem d_SS_broken_14 : decode b_SS_broken 14 = .ok (.invokevirtual 177, 3) := by decide +kernel
theorem d_SS_broken_17 : decode b_SS_broken 17 = .ok (.iconst 0, 1) := by decide +kernel
theorem d_SS_broken_18 : decode b_SS_broken 18 = .ok (.istore_n 2, 1) := by decide +kernel
theorem d_SS_broken_19 : decode b_SS_broken 19 = .ok (.iload_n 2, 1) := by decide +kernel
theorem d_SS_broken_20 : decode b_SS_broken 20 = .ok (.aload_n 0, 1) := by decide +kernel
theorem d_SS_broken_21 : decode b_SS_broken 21 = .ok (.getfield 19, 3) := by decide +kernel
theorem d_SS_broken_24 : decode b_SS_broken 24 = .ok (.getfield 160, 3) := by decide +kernel
theorem d_SS_broken_27 : decode b_SS_broken 27 = .ok (.if_icmp .ge (36), 3) := by decide +kernel
theorem d_SS_broken_30 : decode b_SS_broken 30 = .ok (.aload_n 0, 1) := by decide +kernel
theorem d_SS_broken_31 : decode b_SS_broken 31 = .ok (.iload_n 2, 1) := by decide +kernel
theorem d_SS_broken_32 : decode b_SS_broken 32 = .ok (.invokevirtual 189, 3) := by decide +kernel
theorem d_SS_broken_35 : decode b_SS_broken 35 = .ok (.aload_n 0, 1) := by decide +kernel
theorem d_SS_broken_36 : decode b_SS_broken 36 = .ok (.iload_n 2, 1) := by decide +kernel
theorem d_SS_broken_37 : decode b_SS_broken 37 = .ok (.invokevirtual 213, 3) := by decide +kernel
theorem d_SS_broken_40 : decode b_SS_broken 40 = .ok (.istore_n 3, 1) := by decide +kernel
theorem d_SS_broken_41 : decode b_SS_broken 41 = .ok (.iload_n 3, 1) := by decide +kernel
theorem d_SS_broken_42 : decode b_SS_broken 42 = .ok (.ifCond .lt (15), 3) := by decide +kernel
theorem d_SS_broken_45 : decode b_SS_broken 45 = .ok (.iload_n 1, 1) := by decide +kernel
theorem d_SS_broken_46 : decode b_SS_broken 46 = .ok (.ifCond .ne (8), 3) := by decide +kernel
theorem d_SS_broken_49 : decode b_SS_broken 49 = .ok (.iload_n 2, 1) := by decide +kernel
theorem d_SS_broken_50 : decode b_SS_broken 50 = .ok (.i2l, 1) := by decide +kernel
theorem d_SS_broken_51 : decode b_SS_broken 51 = .ok (.goto (5), 3) := by decide +kernel
theorem d_SS_broken_54 : decode b_SS_broken 54 = .ok (.iload_n 3, 1) := by decide +kernel
theorem d_SS_broken_55 : decode b_SS_broken 55 = .ok (.i2l, 1) := by decide +kernel
theorem d_SS_broken_56 : decode b_SS_broken 56 = .ok (.lreturn, 1) := by decide +kernel
theorem d_SS_broken_57 : decode b_SS_broken 57 = .ok (.iinc 2 (1), 3) := by decide +kernel
theorem d_SS_broken_60 : decode b_SS_broken 60 = .ok (.goto (-41), 3) := by decide +kernel
theorem d_SS_broken_63 : decode b_SS_broken 63 = .ok (.ldc2_w 128, 3) := by decide +kernel
theorem d_SS_broken_66 : decode b_SS_broken 66 = .ok (.lreturn, 1) := by decide +kernel
set_option maxHeartbeats 4000000 in
set_option maxRecDepth 100000 in
theorem c_SS_broken (l : Launch) (dC : Nat → ClassId) (dI : Nat → Nat → Nat) (cI cJ cG cZ : ClassId) (a : Nat → Nat) (sz : Nat) (fi : Nat → Int32) (fl : Nat → Int64) (ai : Nat → Nat → Int32) (al : Nat → Nat → Int64) (p0 : Int32) (K : Int64 → (Nat → Int32) → (Nat → Nat → Int32) → (Nat → Nat → Int64) → Prop) (hw : SS_broken_w fi fl ai al p0 K) : Met l y_SS_broken ws_SS_broken ({ frames := 5, cells := 0, slots := 0, locals := 115 }) (va_Pc [.ref (a 0), .int p0] (zw_Bw (dC, dI) vwCl [(cI, .int), (cJ, .long), (cG, .array .int), (cZ, .boolean)] (cw cI cJ cG cZ a fi fl ai al) sz)) (va_Ql (fun r (u : zw_Z) => (zw_k_fi_ai_alr fl K) r u.1 u.2.1 u.2.2.1 u.2.2.2) (fun u t => zw_E (dC, dI) vwCl [(cI, .int), (cJ, .long), (cG, .array .int), (cZ, .boolean)] (va_A (cw cI cJ cG cZ a fi fl ai al) sz) (cw cI cJ cG cZ a u.1 u.2.1 u.2.2.1 u.2.2.2) t) (va_A (cw cI cJ cG cZ a fi fl ai al) sz)) 0 0 (va_A (cw cI cJ cG cZ a fi fl ai al) sz) := by
  refine Met.ofW (cc := b_SS_broken) (maxL := 4) (ret := (Option.some FieldType.long)) (by decide) rfl ?_
  intro p e s m args below meth c s₁ B hml hv
  obtain ⟨rfl, hsz, hP, hK, hD0, hN⟩ := hv
  have hx := B.exec
  have hb := B.bytes
  have hr := B.returns
  have hts := atoms_spec (ws := ws_SS_broken) B.pre
  have ht : ∀ w ∈ zw_tbl, w.before _ s = true := fun w h => hts w (List.mem_cons_of_mem _ h)
  have hown : s.vm.findClass R_SS = some m.cls := findClass_of_methodNamed B.named
  have hlocks := B.notSynchronized
  subst hsz
  have hD := hD0.self (sz := s.heap.size)
  generalize hAe : va_A (cw cI cJ cG cZ a fi fl ai al) s.heap.size = A at hD ⊢
  have hA : ∀ q : Nat, s.heap.size ≤ q → A q := fun q h => by rw [← hAe]; exact Or.inr h
  have hS : va_S A s.heap s.heap [] := va_S.rf
  have hl := lv_entry ([.ref (a 0), .int p0] : List Value) (n := 4) (Nat.le_of_ble_eq_true rfl)
  rw [lg_entry_eq]
  generalize (lg_sl ([.ref (a 0), .int p0] : List Value) ++ List.replicate (4 - (lg_sl ([.ref (a 0), .int p0] : List Value)).length) Slot.unset).toArray = ls at hl ⊢
  have hl : lv_has ls 4 [(0, .ref (a 0)), (1, .int p0)] := hl
  unfold SS_broken_w at hw
  obtain ⟨H, hH⟩ : ∃ H, H = s.heap := ⟨_, rfl⟩
  obtain ⟨locs, hlo⟩ : ∃ q : List Loc, q = [] := ⟨_, rfl⟩
  have hP : va_P (dC, dI) vwCl (cw cI cJ cG cZ a fi fl ai al) H := by rw [hH]; exact hP
  have hS : va_S A s.heap H locs := by rw [hH, hlo]; exact hS
  have key : W p l e (headSpec ws_SS_broken ({ frames := 5, cells := 0, slots := 0, locals := 115 })).room s m ([.ref (a 0), .int p0] : List Value).toArray below meth c H locs 0 0 (MQ below (va_Ql (fun r (u : zw_Z) => (zw_k_fi_ai_alr fl K) r u.1 u.2.1 u.2.2.1 u.2.2.2) (fun u t => zw_E (dC, dI) vwCl [(cI, .int), (cJ, .long), (cG, .array .int), (cZ, .boolean)] A (cw cI cJ cG cZ a u.1 u.2.1 u.2.2.1 u.2.2.2) t) A) ([.ref (a 0), .int p0] : List Value).toArray s 0 0 A) (F0 m 0 ls []) := by
    refine lv_iload_n hx hb d_SS_broken_0 rfl (lv_at hl 1 rfl) ?_
    refine zw_jn0_i (P := ∀ (H : Heap) (locs : List Loc) (ls : Array Slot), va_P (dC, dI) vwCl (cw cI cJ cG cZ a fi fl ai al) H → va_D A (cw cI cJ cG cZ a fi fl ai al) → va_S A s.heap H locs → lv_has ls 4 [(0, .ref (a 0)), (1, .int p0)] → W p l e (headSpec ws_SS_broken ({ frames := 5, cells := 0, slots := 0, locals := 115 })).room s m ([.ref (a 0), .int p0] : List Value).toArray below meth c H locs 0 0 (MQ below (va_Ql (fun r (u : zw_Z) => (zw_k_fi_ai_alr fl K) r u.1 u.2.1 u.2.2.1 u.2.2.2) (fun u t => zw_E (dC, dI) vwCl [(cI, .int), (cJ, .long), (cG, .array .int), (cZ, .boolean)] A (cw cI cJ cG cZ a u.1 u.2.1 u.2.2.1 u.2.2.2) t) A) ([.ref (a 0), .int p0] : List Value).toArray s 0 0 A) (F0 m 13 ls [])) hw (fun hw H locs ls hP hD hS hl => ?_) (fun J13 hj13 hw => ?_)
    · refine lv_aload_n hx hb d_SS_broken_13 rfl (lv_at hl 0 rfl) ?_
      refine zw_cv (va_runV (As := []) (rest := []) ⟨hx, hb, hml, hown, hts⟩ (c_SS_castAll l dC dI cI cJ cG cZ a H.size fi fl ai al _ hw) (cwV 0 hts (zw_goodV kw_423 kw_425 kw_s3 kw_1 kw_426) rfl rfl rfl hd_SS_castAll ⟨Nat.le_of_ble_eq_true rfl, Nat.le_of_ble_eq_true rfl⟩) (zw_preVw (ci := 0) (q0 := 0) hK hN hP hD rfl rfl) rfl rfl hl.1 rfl (lv_room (Nat.le_of_ble_eq_true rfl)) d_SS_broken_14 ⟨Nat.le_of_ble_eq_true rfl, Nat.le_of_ble_eq_true rfl⟩) hD hS hA (fun fi_14 fl_14 ai_14 al_14 H locs hw hP hD hS => ?_)
      obtain ⟨rfl, hw⟩ := hw
      refine lv_iconst (v := (0 : Int32)) hx hb d_SS_broken_17 (by decide) ?_
      refine lv_topi (fun v18 ev18 => ?_)
      have hw := zw_nm_x ev18 hw
      refine lv_istore_n (lv' := [(2, .int v18), (0, .ref (a 0)), (1, .int p0)]) hx hb d_SS_broken_18 rfl hl (by decide) rfl (fun ls hl => ?_)
      refine (zw_lp4_i (P := fun (x19_2 : Int32) (fi19 : Nat → Int32) (ai19 : Nat → Nat → Int32) (al19 : Nat → Nat → Int64) => ∀ (H : Heap) (locs : List Loc) (ls : Array Slot), va_P (dC, dI) vwCl (cw cI cJ cG cZ a fi19 fl ai19 al19) H → va_D A (cw cI cJ cG cZ a fi19 fl ai19 al19) → va_S A s.heap H locs → lv_has ls 4 [(0, .ref (a 0)), (1, .int p0), (2, .int x19_2)] → W p l e (headSpec ws_SS_broken ({ frames := 5, cells := 0, slots := 0, locals := 115 })).room s m ([.ref (a 0), .int p0] : List Value).toArray below meth c H locs 0 0 (MQ below (va_Ql (fun r (u : zw_Z) => (zw_k_fi_ai_alr fl K) r u.1 u.2.1 u.2.2.1 u.2.2.2) (fun u t => zw_E (dC, dI) vwCl [(cI, .int), (cJ, .long), (cG, .array .int), (cZ, .boolean)] A (cw cI cJ cG cZ a u.1 u.2.1 u.2.2.1 u.2.2.2) t) A) ([.ref (a 0), .int p0] : List Value).toArray s 0 0 A) (F0 m 19 ls [])) hw (fun L19 x19_2 fi19 ai19 al19 ih19 hw H locs ls hP hD hS hl => ?_)) H locs ls hP hD hS (lv_sub hl [1, 2, 0] rfl)
      refine lv_iload_n hx hb d_SS_broken_19 rfl (lv_at hl 2 rfl) ?_
      refine lv_aload_n hx hb d_SS_broken_20 rfl (lv_at hl 0 rfl) ?_
      refine va_get (D := (dC, dI)) (ci := 0) (v := .ref (a 4)) (C := R_SS) (T := T_SS) (N := 9) hx hb ht in_SS hown hK hP 0 rfl rfl 2 (by decide) (ht _ kw_244) (fun _ h9 => h9) rfl d_SS_broken_21 ?_
      refine va_get (D := (dC, dI)) (ci := 3) (v := .int (fi19 2)) (C := R_Pl) (T := T_Pl) (N := 11) hx hb ht in_Pl hown hK hP 4 rfl rfl 7 (by decide) (ht _ kw_62) (fun _ h9 => h9) rfl d_SS_broken_24 ?_
      refine lv_icmp_ge (tgt := 63) hx hb d_SS_broken_27 (by decide) (fun c27 => ?_) (fun c27 => ?_)
      · have hw := zw_ite_t c27 hw
        refine lv_ldc2 (v := (-1000000000000000000 : Int64)) hx hb hown (hts (.constantLong R_SS 128 (-1000000000000000000 : Int64)) (by decide +kernel)) d_SS_broken_63 ?_
        exact W.lret (v := (-1000000000000000000 : Int64)) hx hb hr (fun t ht hW => ⟨⟨(-1000000000000000000 : Int64), (fi19, fl, ai19, al19), rfl, ⟨rfl, hw⟩, by rw [ht]; exact hP, va_K.moved hW.alike hK, hD⟩, hS.F ht⟩) hS.2.2 d_SS_broken_66
      · have hw := zw_ite_f c27 hw
        refine lv_aload_n hx hb d_SS_broken_30 rfl (lv_at hl 0 rfl) ?_
        refine lv_iload_n hx hb d_SS_broken_31 rfl (lv_at hl 2 rfl) ?_
        refine zw_cv (va_runV (As := [.int x19_2]) (rest := []) ⟨hx, hb, hml, hown, hts⟩ (c_SS_walkTo l dC dI cI cJ cG cZ a H.size fi19 fl ai19 al19 x19_2 _ hw) (cwV 1 hts (zw_goodV kw_469 kw_471 kw_s8 kw_1 kw_472) rfl rfl rfl hd_SS_walkTo ⟨Nat.le_of_ble_eq_true rfl, Nat.le_of_ble_eq_true rfl⟩) (zw_preVw (ci := 0) (q0 := 0) hK hN hP hD rfl rfl) rfl rfl hl.1 rfl (lv_room (Nat.le_of_ble_eq_true rfl)) d_SS_broken_32 ⟨Nat.le_of_ble_eq_true rfl, Nat.le_of_ble_eq_true rfl⟩) hD hS hA (fun fi_32 fl_32 ai_32 al_32 H locs hw hP hD hS => ?_)
        obtain ⟨rfl, hw⟩ := hw
        refine lv_aload_n hx hb d_SS_broken_35 rfl (lv_at hl 0 rfl) ?_
        refine lv_iload_n hx hb d_SS_broken_36 rfl (lv_at hl 2 rfl) ?_
        refine vp_callSi (va_Run.run (va_runV (As := [.int x19_2]) (rest := []) ⟨hx, hb, hml, hown, hts⟩ (c_SS_firstBroken l dC dI cI cJ cG cZ a fi_32 fl ai_32 al_32 x19_2 _ hw) (cwV 1 hts (zw_goodV kw_524 kw_526 kw_s12 kw_1 kw_527) rfl rfl rfl hd_SS_firstBroken ⟨Nat.le_of_ble_eq_true rfl, Nat.le_of_ble_eq_true rfl⟩) (zw_preV (ci := 0) (q0 := 0) hK hN hP rfl rfl) rfl rfl hl.1 rfl (lv_room (Nat.le_of_ble_eq_true rfl)) d_SS_broken_37 ⟨Nat.le_of_ble_eq_true rfl, Nat.le_of_ble_eq_true rfl⟩)) (fun r37 hw => ?_)
        refine lv_istore_n (lv' := [(3, .int r37), (0, .ref (a 0)), (1, .int p0), (2, .int x19_2)]) hx hb d_SS_broken_40 rfl hl (by decide) rfl (fun ls hl => ?_)
        refine lv_iload_n hx hb d_SS_broken_41 rfl (lv_at hl 0 rfl) ?_
        refine lv_if_lt (tgt := 57) hx hb d_SS_broken_42 (by decide) (fun c42 => ?_) (fun c42 => ?_)
        · have hw := zw_ite_t c42 hw
          obtain ⟨v57, ev57⟩ : ∃ y : Int32, y = x19_2 + (1 : Int32) := ⟨_, rfl⟩
          refine lv_iinc (v := v57) (lv' := [(2, .int v57), (3, .int r37), (0, .ref (a 0)), (1, .int p0)]) hx hb d_SS_broken_57 hl (k := 3) rfl (by rw [ev57]; rfl) (by decide) rfl (fun ls hl => ?_)
          have hw := zw_nm_x ev57 hw
          refine lv_goto (tgt := 19) hx hb d_SS_broken_60 (by decide) ?_
          exact (ih19 v57 fi_32 ai_32 al_32 hw) H locs ls hP hD hS (lv_sub hl [2, 3, 0] rfl)
        · have hw := zw_ite_f c42 hw
          refine lv_iload_n hx hb d_SS_broken_45 rfl (lv_at hl 2 rfl) ?_
          refine lv_if_ne (tgt := 54) hx hb d_SS_broken_46 (by decide) (fun c46 => ?_) (fun c46 => ?_)
          · have hw := zw_ite_f c46 hw
            refine lv_iload_n hx hb d_SS_broken_54 rfl (lv_at hl 0 rfl) ?_
            refine lv_i2l hx hb d_SS_broken_55 rfl ?_
            exact W.lret (v := r37.toInt64) hx hb hr (fun t ht hW => ⟨⟨r37.toInt64, (fi_32, fl, ai_32, al_32), rfl, ⟨rfl, hw⟩, by rw [ht]; exact hP, va_K.moved hW.alike hK, hD⟩, hS.F ht⟩) hS.2.2 d_SS_broken_56
          · have hw := zw_ite_t c46 hw
            refine lv_iload_n hx hb d_SS_broken_49 rfl (lv_at hl 3 rfl) ?_
            refine lv_i2l hx hb d_SS_broken_50 rfl ?_
            refine lv_goto (tgt := 56) hx hb d_SS_broken_51 (by decide) ?_
            exact W.lret (v := x19_2.toInt64) hx hb hr (fun t ht hW => ⟨⟨x19_2.toInt64, (fi_32, fl, ai_32, al_32), rfl, ⟨rfl, hw⟩, by rw [ht]; exact hP, va_K.moved hW.alike hK, hD⟩, hS.F ht⟩) hS.2.2 d_SS_broken_56
    · refine lv_if_eq (tgt := 13) hx hb d_SS_broken_1 (by decide) (fun c1 => ?_) (fun c1 => ?_)
      · have hw := zw_ite_t c1 hw
        exact (hj13  hw) H locs ls hP hD hS (lv_sub hl [0, 1] rfl)
      · have hw := zw_ite_f c1 hw
        refine lv_iload_n hx hb d_SS_broken_4 rfl (lv_at hl 1 rfl) ?_
        refine lv_iconst (v := (1 : Int32)) hx hb d_SS_broken_5 (by decide) ?_
        refine lv_icmp_eq (tgt := 13) hx hb d_SS_broken_6 (by decide) (fun c6 => ?_) (fun c6 => ?_)
        · have hw := zw_ite_t c6 hw
          exact (hj13  hw) H locs ls hP hD hS (lv_sub hl [0, 1] rfl)
        · have hw := zw_ite_f c6 hw
          refine lv_ldc2 (v := (-1000000000000000000 : Int64)) hx hb hown (hts (.constantLong R_SS 128 (-1000000000000000000 : Int64)) (by decide +kernel)) d_SS_broken_9 ?_
          exact W.lret (v := (-1000000000000000000 : Int64)) hx hb hr (fun t ht hW => ⟨⟨(-1000000000000000000 : Int64), (fi, fl, ai, al), rfl, ⟨rfl, hw⟩, by rw [ht]; exact hP, va_K.moved hW.alike hK, hD⟩, hS.F ht⟩) hS.2.2 d_SS_broken_12
  rw [hH, hlo] at key
  exact key
def Pl_canMove_w (fi : Nat → Int32) (fl : Nat → Int64) (ai : Nat → Nat → Int32) (al : Nat → Nat → Int64) (p0 : Int32) (p1 : Int32) (K : Int32 → Prop) : Prop :=
  Pl_hasStage_w fi fl ai al p0 (fun (r2 : Int32) =>
  if r2 = 0 then (
    K (0 : Int32))
  else (
    SS_within_w p1 (-20000 : Int32) (20000 : Int32) (fun (r15 : Int32) =>
    if r15 = 0 then (
      K (0 : Int32))
    else (
      vp_in p0 12 ∧ (
      zw_nm ((ai 5 p0.toNatClampNeg) + p1) (fun (v31 : Int32) =>
      zw_jn1 (fun (y50_0 : Int32) =>
      if v31 < y50_0 then (
        K (0 : Int32))
      else (
        Pl_lastDay_w fi fl ai al  (fun (r59 : Int32) =>
        if (20000 : Int32) < (r59 + p1) then (
          K (0 : Int32))
        else (
          K (1 : Int32))))) (fun J50 =>
      if p0 = 0 then (
        J50 (0 : Int32))
      else (
        vp_in (p0 - (1 : Int32)) 12 ∧ (
        J50 ((ai 5 (p0 - (1 : Int32)).toNatClampNeg) + (1 : Int32)))))))))))
theorem d_Pl_canMove_0 : decode b_Pl_canMove 0 = .ok (.aload_n 0, 1) := by decide +kernel
theorem d_Pl_canMove_1 : decode b_Pl_canMove 1 = .ok (.iload_n 1, 1) := by decide +kernel
theorem d_Pl_canMove_2 : decode b_Pl_canMove 2 = .ok (.invokevirtual 75, 3) := by decide +kernel
theorem d_Pl_canMove_5 : decode b_Pl_canMove 5 = .ok (.ifCond .eq (16), 3) := by decide +kernel
theorem d_Pl_canMove_8 : decode b_Pl_canMove 8 = .ok (.iload_n 2, 1) := by decide +kernel
theorem d_Pl_canMove_9 : decode b_Pl_canMove 9 = .ok (.sipush (-20000), 3) := by decide +kernel
theorem d_Pl_canMove_12 : decode b_Pl_canMove 12 = .ok (.sipush (20000), 3) := by decide +kernel
theorem d_Pl_canMove_15 : decode b_Pl_canMove 15 = .ok (.invokestatic 40, 3) := by decide +kernel
theorem d_Pl_canMove_18 : decode b_Pl_canMove 18 = .ok (.ifCond .ne (5), 3) := by decide +kernel
theorem d_Pl_canMove_21 : decode b_Pl_canMove 21 = .ok (.iconst 0, 1) := by decide +kernel
theorem d_Pl_canMove_22 : decode b_Pl_canMove 22 = .ok (.ireturn, 1) := by decide +kernel
theorem d_Pl_canMove_23 : decode b_Pl_canMove 23 = .ok (.aload_n 0, 1) := by decide +kernel
theorem d_Pl_canMove_24 : decode b_Pl_canMove 24 = .ok (.getfield 9, 3) := by decide +kernel
theorem d_Pl_canMove_27 : decode b_Pl_canMove 27 = .ok (.iload_n 1, 1) := by decide +kernel
theorem d_Pl_canMove_28 : decode b_Pl_canMove 28 = .ok (.iaload, 1) := by decide +kernel
theorem d_Pl_canMove_29 : decode b_Pl_canMove 29 = .ok (.iload_n 2, 1) := by decide +kernel
theorem d_Pl_canMove_30 : decode b_Pl_canMove 30 = .ok (.iadd, 1) := by decide +kernel
theorem d_Pl_canMove_31 : decode b_Pl_canMove 31 = .ok (.istore_n 3, 1) := by decide +kernel
theorem d_Pl_canMove_32 : decode b_Pl_canMove 32 = .ok (.iload_n 1, 1) := by decide +kernel
theorem d_Pl_canMove_33 : decode b_Pl_canMove 33 = .ok (.ifCond .ne (7), 3) := by decide +kernel
theorem d_Pl_canMove_36 : decode b_Pl_canMove 36 = .ok (.iconst 0, 1) := by decide +kernel
theorem d_Pl_canMove_37 : decode b_Pl_canMove 37 = .ok (.goto (13), 3) := by decide +kernel
theorem d_Pl_canMove_40 : decode b_Pl_canMove 40 = .ok (.aload_n 0, 1) := by decide +kernel
theorem d_Pl_canMove_41 : decode b_Pl_canMove 41 = .ok (.getfield 9, 3) := by decide +kernel
theorem d_Pl_canMove_44 : decode b_Pl_canMove 44 = .ok (.iload_n 1, 1) := by decide +kernel
theorem d_Pl_canMove_45 : decode b_Pl_canMove 45 = .ok (.iconst 1, 1) := by decide +kernel
theorem d_Pl_canMove_46 : decode b_Pl_canMove 46 = .ok (.isub, 1) := by decide +kernel
theorem d_Pl_canMove_47 : decode b_Pl_canMove 47 = .ok (.iaload, 1) := by decide +kernel
theorem d_Pl_canMove_48 : decode b_Pl_canMove 48 = .ok (.iconst 1, 1) := by decide +kernel
theorem d_Pl_canMove_49 : decode b_Pl_canMove 49 = .ok (.iadd, 1) := by decide +kernel
theorem d_Pl_canMove_50 : decode b_Pl_canMove 50 = .ok (.istore 4, 2) := by decide +kernel
theorem d_Pl_canMove_52 : decode b_Pl_canMove 52 = .ok (.iload_n 3, 1) := by decide +kernel
theorem d_Pl_canMove_53 : decode b_Pl_canMove 53 = .ok (.iload 4, 2) := by decide +kernel
theorem d_Pl_canMove_55 : decode b_Pl_canMove 55 = .ok (.if_icmp .lt (19), 3) := by decide +kernel
theorem d_Pl_canMove_58 : decode b_Pl_canMove 58 = .ok (.aload_n 0, 1) := by decide +kernel
theorem d_Pl_canMove_59 : decode b_Pl_canMove 59 = .ok (.invokevirtual 47, 3) := by decide +kernel
theorem d_Pl_canMove_62 : decode b_Pl_canMove 62 = .ok (.iload_n 2, 1) := by decide +kernel
theorem d_Pl_canMove_63 : decode b_Pl_canMove 63 = .ok (.iadd, 1) := by decide +kernel
theorem d_Pl_canMove_64 : decode b_Pl_canMove 64 = .ok (.sipush (20000), 3) := by decide +kernel
theorem d_Pl_canMove_67 : decode b_Pl_canMove 67 = .ok (.if_icmp .gt (7), 3) := by decide +kernel
theorem d_Pl_canMove_70 : decode b_Pl_canMove 70 = .ok (.iconst 1, 1) := by decide +kernel
theorem d_Pl_canMove_71 : decode b_Pl_canMove 71 = .ok (.goto (4), 3) := by decide +kernel
theorem d_Pl_canMove_74 : decode b_Pl_canMove 74 = .ok (.iconst 0, 1) := by decide +kernel
theorem d_Pl_canMove_75 : decode b_Pl_canMove 75 = .ok (.ireturn, 1) := by decide +kernel
set_option maxHeartbeats 4000000 in
set_option maxRecDepth 100000 in
theorem c_Pl_canMove (l : Launch) (dC : Nat → ClassId) (dI : Nat → Nat → Nat) (cI cJ cG cZ : ClassId) (a : Nat → Nat) (fi : Nat → Int32) (fl : Nat → Int64) (ai : Nat → Nat → Int32) (al : Nat → Nat → Int64) (p0 : Int32) (p1 : Int32) (K : Int32 → Prop) (hw : Pl_canMove_w fi fl ai al p0 p1 K) : Met l y_Pl_canMove ws_Pl_canMove ({ frames := 2, cells := 0, slots := 0, locals := 43 }) (va_Pc [.ref (a 4), .int p0, .int p1] (zw_B (dC, dI) vwCl [(cI, .int), (cJ, .long), (cG, .array .int), (cZ, .boolean)] (cw cI cJ cG cZ a fi fl ai al))) (vp_Si K) 0 0 (fun _ => False) := by
  refine Met.ofW (cc := b_Pl_canMove) (maxL := 5) (ret := (Option.some FieldType.boolean)) (by decide) rfl ?_
  intro p e s m args below meth c s₁ B hml hv
  obtain ⟨rfl, hP, hK, hN⟩ := hv
  have hx := B.exec
  have hb := B.bytes
  have hr := B.returns
  have hts := atoms_spec (ws := ws_Pl_canMove) B.pre
  have ht : ∀ w ∈ zw_tbl, w.before _ s = true := fun w h => hts w (List.mem_cons_of_mem _ h)
  have hown : s.vm.findClass R_Pl = some m.cls := findClass_of_methodNamed B.named
  have hlocks := B.notSynchronized
  have hl := lv_entry ([.ref (a 4), .int p0, .int p1] : List Value) (n := 5) (Nat.le_of_ble_eq_true rfl)
  rw [lg_entry_eq]
  generalize (lg_sl ([.ref (a 4), .int p0, .int p1] : List Value) ++ List.replicate (5 - (lg_sl ([.ref (a 4), .int p0, .int p1] : List Value)).length) Slot.unset).toArray = ls at hl ⊢
  have hl : lv_has ls 5 [(0, .ref (a 4)), (1, .int p0), (2, .int p1)] := hl
  unfold Pl_canMove_w at hw
  refine lv_aload_n hx hb d_Pl_canMove_0 rfl (lv_at hl 0 rfl) ?_
  refine lv_iload_n hx hb d_Pl_canMove_1 rfl (lv_at hl 1 rfl) ?_
  refine vp_callSi (va_Run.run (va_runV (As := [.int p0]) (rest := []) ⟨hx, hb, hml, hown, hts⟩ (c_Pl_hasStage l dC dI cI cJ cG cZ a fi fl ai al p0 _ hw) (cwV 1 hts (zw_goodV kw_545 kw_412 kw_413 kw_3 kw_414) rfl rfl rfl hd_Pl_hasStage ⟨Nat.le_of_ble_eq_true rfl, Nat.le_of_ble_eq_true rfl⟩) (zw_preV (ci := 3) (q0 := 4) hK hN hP rfl rfl) rfl rfl hl.1 rfl (lv_room (Nat.le_of_ble_eq_true rfl)) d_Pl_canMove_2 ⟨Nat.le_of_ble_eq_true rfl, Nat.le_of_ble_eq_true rfl⟩)) (fun r2 hw => ?_)
  refine lv_if_eq (tgt := 21) hx hb d_Pl_canMove_5 (by decide) (fun c5 => ?_) (fun c5 => ?_)
  · have hw := zw_ite_t c5 hw
    refine lv_iconst (v := (0 : Int32)) hx hb d_Pl_canMove_21 (by decide) ?_
    exact W.zret (v := (0 : Int32)) (ty := .boolean) hx hb hr rfl (fun t ht hW => ⟨(0 : Int32), rfl, hw, ht⟩) t_nil d_Pl_canMove_22
  · have hw := zw_ite_f c5 hw
    refine lv_iload_n hx hb d_Pl_canMove_8 rfl (lv_at hl 2 rfl) ?_
    refine lv_sipush (v := (-20000 : Int32)) hx hb d_Pl_canMove_9 (by decide) ?_
    refine lv_sipush (v := (20000 : Int32)) hx hb d_Pl_canMove_12 (by decide) ?_
    refine vp_callSi (va_Run.run (va_runSN (As := [.int p1, .int (-20000 : Int32), .int (20000 : Int32)]) (rest := []) ⟨hx, hb, hml, hown, hts⟩ (c_SS_within l p1 (-20000 : Int32) (20000 : Int32) _ hw) ⟨va_cnB 3 hts (zw_goodC kw_280) rfl rfl rfl (hN _ nw_339) (ht _ kw_1) hd_SS_within.2 ⟨Nat.le_of_ble_eq_true rfl, Nat.le_of_ble_eq_true rfl⟩, ht _ kw_279, trivial⟩ zw_preS0 rfl rfl hl.1 rfl (lv_room (Nat.le_of_ble_eq_true rfl)) d_Pl_canMove_15 ⟨Nat.le_of_ble_eq_true rfl, Nat.le_of_ble_eq_true rfl⟩)) (fun r15 hw => ?_)
    refine lv_if_ne (tgt := 23) hx hb d_Pl_canMove_18 (by decide) (fun c18 => ?_) (fun c18 => ?_)
    · have hw := zw_ite_f c18 hw
      refine lv_aload_n hx hb d_Pl_canMove_23 rfl (lv_at hl 0 rfl) ?_
      refine va_get (D := (dC, dI)) (ci := 3) (v := .ref (a 5)) (C := R_Pl) (T := T_Pl) (N := 11) hx hb ht in_Pl hown hK hP 4 rfl rfl 0 (by decide) (ht _ kw_43) (fun _ h9 => h9) rfl d_Pl_canMove_24 ?_
      refine lv_iload_n hx hb d_Pl_canMove_27 rfl (lv_at hl 1 rfl) ?_
      obtain ⟨h28, hw⟩ := hw
      refine va_iald (f := ai 5) hx hb hK hP 5 0 rfl rfl h28 d_Pl_canMove_28 ?_
      refine lv_iload_n hx hb d_Pl_canMove_29 rfl (lv_at hl 2 rfl) ?_
      refine lv_iadd hx hb d_Pl_canMove_30 ?_
      refine lv_topi (fun v31 ev31 => ?_)
      have hw := zw_nm_x ev31 hw
      refine lv_istore_n (lv' := [(3, .int v31), (0, .ref (a 4)), (1, .int p0), (2, .int p1)]) hx hb d_Pl_canMove_31 rfl hl (by decide) rfl (fun ls hl => ?_)
      refine lv_iload_n hx hb d_Pl_canMove_32 rfl (lv_at hl 2 rfl) ?_
      refine zw_jn1_i (P := fun (y50_0 : Int32) => ∀ (ls : Array Slot), lv_has ls 5 [(0, .ref (a 4)), (2, .int p1), (3, .int v31)] → W p l e (headSpec ws_Pl_canMove ({ frames := 2, cells := 0, slots := 0, locals := 43 })).room s m ([.ref (a 4), .int p0, .int p1] : List Value).toArray below meth c s.heap [] 0 0 (MQ below (vp_Si K) ([.ref (a 4), .int p0, .int p1] : List Value).toArray s 0 0 (fun _ => False)) (F0 m 50 ls [.int y50_0])) hw (fun y50_0 hw ls hl => ?_) (fun J50 hj50 hw => ?_)
      · refine lv_istore (lv' := [(4, .int y50_0), (0, .ref (a 4)), (2, .int p1), (3, .int v31)]) hx hb d_Pl_canMove_50 hl (by decide) rfl (fun ls hl => ?_)
        refine lv_iload_n hx hb d_Pl_canMove_52 rfl (lv_at hl 3 rfl) ?_
        refine lv_iload hx hb d_Pl_canMove_53 (lv_at hl 0 rfl) ?_
        refine lv_icmp_lt (tgt := 74) hx hb d_Pl_canMove_55 (by decide) (fun c55 => ?_) (fun c55 => ?_)
        · have hw := zw_ite_t c55 hw
          refine lv_iconst (v := (0 : Int32)) hx hb d_Pl_canMove_74 (by decide) ?_
          exact W.zret (v := (0 : Int32)) (ty := .boolean) hx hb hr rfl (fun t ht hW => ⟨(0 : Int32), rfl, hw, ht⟩) t_nil d_Pl_canMove_75
        · have hw := zw_ite_f c55 hw
          refine lv_aload_n hx hb d_Pl_canMove_58 rfl (lv_at hl 1 rfl) ?_
          refine vp_callSi (va_Run.run (va_runV (As := []) (rest := []) ⟨hx, hb, hml, hown, hts⟩ (c_Pl_lastDay l dC dI cI cJ cG cZ a fi fl ai al _ hw) (cwV 0 hts (zw_goodV kw_340 kw_341 kw_342 kw_3 kw_343) rfl rfl rfl hd_Pl_lastDay ⟨Nat.le_of_ble_eq_true rfl, Nat.le_of_ble_eq_true rfl⟩) (zw_preV (ci := 3) (q0 := 4) hK hN hP rfl rfl) rfl rfl hl.1 rfl (lv_room (Nat.le_of_ble_eq_true rfl)) d_Pl_canMove_59 ⟨Nat.le_of_ble_eq_true rfl, Nat.le_of_ble_eq_true rfl⟩)) (fun r59 hw => ?_)
          refine lv_iload_n hx hb d_Pl_canMove_62 rfl (lv_at hl 2 rfl) ?_
          refine lv_iadd hx hb d_Pl_canMove_63 ?_
          refine lv_sipush (v := (20000 : Int32)) hx hb d_Pl_canMove_64 (by decide) ?_
          refine lv_icmp_gt (tgt := 74) hx hb d_Pl_canMove_67 (by decide) (fun c67 => ?_) (fun c67 => ?_)
          · have hw := zw_ite_t c67 hw
            refine lv_iconst (v := (0 : Int32)) hx hb d_Pl_canMove_74 (by decide) ?_
            exact W.zret (v := (0 : Int32)) (ty := .boolean) hx hb hr rfl (fun t ht hW => ⟨(0 : Int32), rfl, hw, ht⟩) t_nil d_Pl_canMove_75
          · have hw := zw_ite_f c67 hw
            refine lv_iconst (v := (1 : Int32)) hx hb d_Pl_canMove_70 (by decide) ?_
            refine lv_goto (tgt := 75) hx hb d_Pl_canMove_71 (by decide) ?_
            exact W.zret (v := (1 : Int32)) (ty := .boolean) hx hb hr rfl (fun t ht hW => ⟨(1 : Int32), rfl, hw, ht⟩) t_nil d_Pl_canMove_75
      · refine lv_if_ne (tgt := 40) hx hb d_Pl_canMove_33 (by decide) (fun c33 => ?_) (fun c33 => ?_)
        · have hw := zw_ite_f c33 hw
          refine lv_aload_n hx hb d_Pl_canMove_40 rfl (lv_at hl 1 rfl) ?_
          refine va_get (D := (dC, dI)) (ci := 3) (v := .ref (a 5)) (C := R_Pl) (T := T_Pl) (N := 11) hx hb ht in_Pl hown hK hP 4 rfl rfl 0 (by decide) (ht _ kw_43) (fun _ h9 => h9) rfl d_Pl_canMove_41 ?_
          refine lv_iload_n hx hb d_Pl_canMove_44 rfl (lv_at hl 2 rfl) ?_
          refine lv_iconst (v := (1 : Int32)) hx hb d_Pl_canMove_45 (by decide) ?_
          refine lv_isub hx hb d_Pl_canMove_46 ?_
          obtain ⟨h47, hw⟩ := hw
          refine va_iald (f := ai 5) hx hb hK hP 5 0 rfl rfl h47 d_Pl_canMove_47 ?_
          refine lv_iconst (v := (1 : Int32)) hx hb d_Pl_canMove_48 (by decide) ?_
          refine lv_iadd hx hb d_Pl_canMove_49 ?_
          exact (hj50 ((ai 5 (p0 - (1 : Int32)).toNatClampNeg) + (1 : Int32)) hw) ls (lv_sub hl [1, 3, 0] rfl)
        · have hw := zw_ite_t c33 hw
          refine lv_iconst (v := (0 : Int32)) hx hb d_Pl_canMove_36 (by decide) ?_
          refine lv_goto (tgt := 50) hx hb d_Pl_canMove_37 (by decide) ?_
          exact (hj50 (0 : Int32) hw) ls (lv_sub hl [1, 3, 0] rfl)
    · have hw := zw_ite_t c18 hw
      refine lv_iconst (v := (0 : Int32)) hx hb d_Pl_canMove_21 (by decide) ?_
      exact W.zret (v := (0 : Int32)) (ty := .boolean) hx hb hr rfl (fun t ht hW => ⟨(0 : Int32), rfl, hw, ht⟩) t_nil d_Pl_canMove_22
def Pl_move_w (fi : Nat → Int32) (fl : Nat → Int64) (ai : Nat → Nat → Int32) (al : Nat → Nat → Int64) (p0 : Int32) (p1 : Int32) (K : (Nat → Int32) → (Nat → Nat → Int32) → Prop) : Prop :=
  zw_lp2 (fun L2 (x2_3 : Int32) (ai2 : Nat → Nat → Int32) =>
  if (fi 2) ≤ x2_3 then (
    Pl_forgetPassedEnd_w fi fl ai2 al  (fun (fi_27 : Nat → Int32) =>
    K fi_27 ai2))
  else (
    vp_in x2_3 12 ∧ (
    vp_in x2_3 12 ∧ (zw_nm (va_up ai2 5 (upd (ai2 5) x2_3.toNatClampNeg ((ai2 5 x2_3.toNatClampNeg) + p1))) (fun (ai_19 : Nat → Nat → Int32) =>
    zw_nm (x2_3 + (1 : Int32)) (fun (v20 : Int32) =>
    L2 v20 ai_19)))))) p0 ai
theorem d_Pl_move_0 : decode b_Pl_move 0 = .ok (.iload_n 1, 1) := by decide +kernel
theorem d_Pl_move_1 : decode b_Pl_move 1 = .ok (.istore_n 3, 1) := by decide +kernel
theorem d_Pl_move_2 : decode b_Pl_move 2 = .ok (.iload_n 3, 1) := by decide +kernel
theorem d_Pl_move_3 : decode b_Pl_move 3 = .ok (.aload_n 0, 1) := by decide +kernel
theorem d_Pl_move_4 : decode b_Pl_move 4 = .ok (.getfield 37, 3) := by decide +kernel
theorem d_Pl_move_7 : decode b_Pl_move 7 = .ok (.if_icmp .ge (19), 3) := by decide +kernel
theorem d_Pl_move_10 : decode b_Pl_move 10 = .ok (.aload_n 0, 1) := by decide +kernel
theorem d_Pl_move_11 : decode b_Pl_move 11 = .ok (.getfield 9, 3) := by decide +kernel
theorem d_Pl_move_14 : decode b_Pl_move 14 = .ok (.iload_n 3, 1) := by decide +kernel
theorem d_Pl_move_15 : decode b_Pl_move 15 = .ok (.dup2, 1) := by decide +kernel
theorem d_Pl_move_16 : decode b_Pl_move 16 = .ok (.iaload, 1) := by decide +kernel
theorem d_Pl_move_17 : decode b_Pl_move 17 = .ok (.iload_n 2, 1) := by decide +kernel
theorem d_Pl_move_18 : decode b_Pl_move 18 = .ok (.iadd, 1) := by decide +kernel
theorem d_Pl_move_19 : decode b_Pl_move 19 = .ok (.iastore, 1) := by decide +kernel
theorem d_Pl_move_20 : decode b_Pl_move 20 = .ok (.iinc 3 (1), 3) := by decide +kernel
theorem d_Pl_move_23 : decode b_Pl_move 23 = .ok (.goto (-21), 3) := by decide +kernel
theorem d_Pl_move_26 : decode b_Pl_move 26 = .ok (.aload_n 0, 1) := by decide +kernel
theorem d_Pl_move_27 : decode b_Pl_move 27 = .ok (.invokevirtual 57, 3) := by decide +kernel
theorem d_Pl_move_30 : decode b_Pl_move 30 = .ok (.return_, 1) := by decide +kernel
set_option maxHeartbeats 4000000 in
set_option maxRecDepth 100000 in
theorem c_Pl_move (l : Launch) (dC : Nat → ClassId) (dI : Nat → Nat → Nat) (cI cJ cG cZ : ClassId) (a : Nat → Nat) (sz : Nat) (fi : Nat → Int32) (fl : Nat → Int64) (ai : Nat → Nat → Int32) (al : Nat → Nat → Int64) (p0 : Int32) (p1 : Int32) (K : (Nat → Int32) → (Nat → Nat → Int32) → Prop) (hw : Pl_move_w fi fl ai al p0 p1 K) : Met l y_Pl_move ws_Pl_move ({ frames := 2, cells := 0, slots := 0, locals := 40 }) (va_Pc [.ref (a 4), .int p0, .int p1] (zw_Bw (dC, dI) vwCl [(cI, .int), (cJ, .long), (cG, .array .int), (cZ, .boolean)] (cw cI cJ cG cZ a fi fl ai al) sz)) (va_Qv (fun (u : zw_Z) => (zw_k_fi_aiv fl al K) u.1 u.2.1 u.2.2.1 u.2.2.2) (fun u t => zw_E (dC, dI) vwCl [(cI, .int), (cJ, .long), (cG, .array .int), (cZ, .boolean)] (va_A (cw cI cJ cG cZ a fi fl ai al) sz) (cw cI cJ cG cZ a u.1 u.2.1 u.2.2.1 u.2.2.2) t) (va_A (cw cI cJ cG cZ a fi fl ai al) sz)) 0 0 (va_A (cw cI cJ cG cZ a fi fl ai al) sz) := by
  refine Met.ofW (cc := b_Pl_move) (maxL := 4) (ret := (Option.none : Option FieldType)) (by decide) rfl ?_
  intro p e s m args below meth c s₁ B hml hv
  obtain ⟨rfl, hsz, hP, hK, hD0, hN⟩ := hv
  have hx := B.exec
  have hb := B.bytes
  have hr := B.returns
  have hts := atoms_spec (ws := ws_Pl_move) B.pre
  have ht : ∀ w ∈ zw_tbl, w.before _ s = true := fun w h => hts w (List.mem_cons_of_mem _ h)
  have hown : s.vm.findClass R_Pl = some m.cls := findClass_of_methodNamed B.named
  have hlocks := B.notSynchronized
  subst hsz
  have hD := hD0.self (sz := s.heap.size)
  generalize hAe : va_A (cw cI cJ cG cZ a fi fl ai al) s.heap.size = A at hD ⊢
  have hA : ∀ q : Nat, s.heap.size ≤ q → A q := fun q h => by rw [← hAe]; exact Or.inr h
  have hS : va_S A s.heap s.heap [] := va_S.rf
  have hl := lv_entry ([.ref (a 4), .int p0, .int p1] : List Value) (n := 4) (Nat.le_of_ble_eq_true rfl)
  rw [lg_entry_eq]
  generalize (lg_sl ([.ref (a 4), .int p0, .int p1] : List Value) ++ List.replicate (4 - (lg_sl ([.ref (a 4), .int p0, .int p1] : List Value)).length) Slot.unset).toArray = ls at hl ⊢
  have hl : lv_has ls 4 [(0, .ref (a 4)), (1, .int p0), (2, .int p1)] := hl
  unfold Pl_move_w at hw
  obtain ⟨H, hH⟩ : ∃ H, H = s.heap := ⟨_, rfl⟩
  obtain ⟨locs, hlo⟩ : ∃ q : List Loc, q = [] := ⟨_, rfl⟩
  have hP : va_P (dC, dI) vwCl (cw cI cJ cG cZ a fi fl ai al) H := by rw [hH]; exact hP
  have hS : va_S A s.heap H locs := by rw [hH, hlo]; exact hS
  have key : W p l e (headSpec ws_Pl_move ({ frames := 2, cells := 0, slots := 0, locals := 40 })).room s m ([.ref (a 4), .int p0, .int p1] : List Value).toArray below meth c H locs 0 0 (MQ below (va_Qv (fun (u : zw_Z) => (zw_k_fi_aiv fl al K) u.1 u.2.1 u.2.2.1 u.2.2.2) (fun u t => zw_E (dC, dI) vwCl [(cI, .int), (cJ, .long), (cG, .array .int), (cZ, .boolean)] A (cw cI cJ cG cZ a u.1 u.2.1 u.2.2.1 u.2.2.2) t) A) ([.ref (a 4), .int p0, .int p1] : List Value).toArray s 0 0 A) (F0 m 0 ls []) := by
    refine lv_iload_n hx hb d_Pl_move_0 rfl (lv_at hl 1 rfl) ?_
    refine lv_istore_n (lv' := [(3, .int p0), (0, .ref (a 4)), (1, .int p0), (2, .int p1)]) hx hb d_Pl_move_1 rfl hl (by decide) rfl (fun ls hl => ?_)
    refine (zw_lp2_i (P := fun (x2_3 : Int32) (ai2 : Nat → Nat → Int32) => ∀ (H : Heap) (locs : List Loc) (ls : Array Slot), va_P (dC, dI) vwCl (cw cI cJ cG cZ a fi fl ai2 al) H → va_D A (cw cI cJ cG cZ a fi fl ai2 al) → va_S A s.heap H locs → lv_has ls 4 [(0, .ref (a 4)), (2, .int p1), (3, .int x2_3)] → W p l e (headSpec ws_Pl_move ({ frames := 2, cells := 0, slots := 0, locals := 40 })).room s m ([.ref (a 4), .int p0, .int p1] : List Value).toArray below meth c H locs 0 0 (MQ below (va_Qv (fun (u : zw_Z) => (zw_k_fi_aiv fl al K) u.1 u.2.1 u.2.2.1 u.2.2.2) (fun u t => zw_E (dC, dI) vwCl [(cI, .int), (cJ, .long), (cG, .array .int), (cZ, .boolean)] A (cw cI cJ cG cZ a u.1 u.2.1 u.2.2.1 u.2.2.2) t) A) ([.ref (a 4), .int p0, .int p1] : List Value).toArray s 0 0 A) (F0 m 2 ls [])) hw (fun L2 x2_3 ai2 ih2 hw H locs ls hP hD hS hl => ?_)) H locs ls hP hD hS (lv_sub hl [1, 3, 0] rfl)
    refine lv_iload_n hx hb d_Pl_move_2 rfl (lv_at hl 2 rfl) ?_
    refine lv_aload_n hx hb d_Pl_move_3 rfl (lv_at hl 0 rfl) ?_
    refine va_get (D := (dC, dI)) (ci := 3) (v := .int (fi 2)) (C := R_Pl) (T := T_Pl) (N := 11) hx hb ht in_Pl hown hK hP 4 rfl rfl 7 (by decide) (ht _ kw_59) (fun _ h9 => h9) rfl d_Pl_move_4 ?_
    refine lv_icmp_ge (tgt := 26) hx hb d_Pl_move_7 (by decide) (fun c7 => ?_) (fun c7 => ?_)
    · have hw := zw_ite_t c7 hw
      refine lv_aload_n hx hb d_Pl_move_26 rfl (lv_at hl 0 rfl) ?_
      refine zw_cv (va_runV (As := []) (rest := []) ⟨hx, hb, hml, hown, hts⟩ (c_Pl_forgetPassedEnd l dC dI cI cJ cG cZ a H.size fi fl ai2 al _ hw) (cwV 0 hts (zw_goodV kw_349 kw_351 kw_s0 kw_3 kw_352) rfl rfl rfl hd_Pl_forgetPassedEnd ⟨Nat.le_of_ble_eq_true rfl, Nat.le_of_ble_eq_true rfl⟩) (zw_preVw (ci := 3) (q0 := 4) hK hN hP hD rfl rfl) rfl rfl hl.1 rfl (lv_room (Nat.le_of_ble_eq_true rfl)) d_Pl_move_27 ⟨Nat.le_of_ble_eq_true rfl, Nat.le_of_ble_eq_true rfl⟩) hD hS hA (fun fi_27 fl_27 ai_27 al_27 H locs hw hP hD hS => ?_)
      obtain ⟨rfl, rfl, rfl, hw⟩ := hw
      exact W.vret hx hb hr (fun t ht hW => ⟨⟨(fi_27, fl, ai2, al), rfl, ⟨rfl, rfl, hw⟩, by rw [ht]; exact hP, va_K.moved hW.alike hK, hD⟩, hS.F ht⟩) hS.2.2 d_Pl_move_30
    · have hw := zw_ite_f c7 hw
      refine lv_aload_n hx hb d_Pl_move_10 rfl (lv_at hl 0 rfl) ?_
      refine va_get (D := (dC, dI)) (ci := 3) (v := .ref (a 5)) (C := R_Pl) (T := T_Pl) (N := 11) hx hb ht in_Pl hown hK hP 4 rfl rfl 0 (by decide) (ht _ kw_43) (fun _ h9 => h9) rfl d_Pl_move_11 ?_
      refine lv_iload_n hx hb d_Pl_move_14 rfl (lv_at hl 2 rfl) ?_
      refine lv_dup2_11 hx hb d_Pl_move_15 rfl rfl ?_
      obtain ⟨h16, hw⟩ := hw
      refine va_iald (f := ai2 5) hx hb hK hP 5 0 rfl rfl h16 d_Pl_move_16 ?_
      refine lv_iload_n hx hb d_Pl_move_17 rfl (lv_at hl 1 rfl) ?_
      refine lv_iadd hx hb d_Pl_move_18 ?_
      obtain ⟨h19, hw⟩ := hw
      refine va_iast (f := ai2 5) hx hb hK hP hD hS 5 0 rfl rfl h19 d_Pl_move_19 (fun H locs hP hD hS => ?_)
      have hP := cwpai_5 hP
      have hD := cwdai_5 hD
      obtain ⟨ai_19, eai_19⟩ : ∃ z, z = va_up ai2 5 (upd (ai2 5) x2_3.toNatClampNeg ((ai2 5 x2_3.toNatClampNeg) + p1)) := ⟨_, rfl⟩
      rw [← eai_19] at hP hD
      have hw := zw_nm_x eai_19 hw
      obtain ⟨v20, ev20⟩ : ∃ y : Int32, y = x2_3 + (1 : Int32) := ⟨_, rfl⟩
      refine lv_iinc (v := v20) (lv' := [(3, .int v20), (0, .ref (a 4)), (2, .int p1)]) hx hb d_Pl_move_20 hl (k := 2) rfl (by rw [ev20]; rfl) (by decide) rfl (fun ls hl => ?_)
      have hw := zw_nm_x ev20 hw
      refine lv_goto (tgt := 2) hx hb d_Pl_move_23 (by decide) ?_
      exact (ih2 v20 ai_19 hw) H locs ls hP hD hS (lv_sub hl [1, 2, 0] rfl)
  rw [hH, hlo] at key
  exact key
def SS_shift_w (fi : Nat → Int32) (fl : Nat → Int64) (ai : Nat → Nat → Int32) (al : Nat → Nat → Int64) (p0 : Int32) (p1 : Int32) (K : Int32 → (Nat → Int32) → (Nat → Nat → Int32) → Prop) : Prop :=
  Pl_canMove_w fi fl ai al p0 p1 (fun (r6 : Int32) =>
  if r6 = 0 then (
    K (0 : Int32) fi ai)
  else (
    Pl_move_w fi fl ai al p0 p1 (fun (fi_20 : Nat → Int32) (ai_20 : Nat → Nat → Int32) =>
    K (1 : Int32) fi_20 ai_20)))
theorem d_SS_shift_0 : decode b_SS_shift 0 = .ok (.aload_n 0, 1) := by decide +kernel
theorem d_SS_shift_1 : decode b_SS_shift 1 = .ok (.getfield 19, 3) := by decide +kernel
theorem d_SS_shift_4 : decode b_SS_shift 4 = .ok (.iload_n 1, 1) := by decide +kernel
theorem d_SS_shift_5 : decode b_SS_shift 5 = .ok (.iload_n 2, 1) := by decide +kernel
theorem d_SS_shift_6 : decode b_SS_shift 6 = .ok (.invokevirtual 216, 3) := by decide +kernel
theorem d_SS_shift_9 : decode b_SS_shift 9 = .ok (.ifCond .ne (5), 3) := by decide +kernel
theorem d_SS_shift_12 : decode b_SS_shift 12 = .ok (.iconst 0, 1) := by decide +kernel
theorem d_SS_shift_13 : decode b_SS_shift 13 = .ok (.ireturn, 1) := by decide +kernel
theorem d_SS_shift_14 : decode b_SS_shift 14 = .ok (.aload_n 0, 1) := by decide +kernel
theorem d_SS_shift_15 : decode b_SS_shift 15 = .ok (.getfield 19, 3) := by decide +kernel
theorem d_SS_shift_18 : decode b_SS_shift 18 = .ok (.iload_n 1, 1) := by decide +kernel
theorem d_SS_shift_19 : decode b_SS_shift 19 = .ok (.iload_n 2, 1) := by decide +kernel
theorem d_SS_shift_20 : decode b_SS_shift 20 = .ok (.invokevirtual 219, 3) := by decide +kernel
theorem d_SS_shift_23 : decode b_SS_shift 23 = .ok (.iconst 1, 1) := by decide +kernel
theorem d_SS_shift_24 : decode b_SS_shift 24 = .ok (.ireturn, 1) := by decide +kernel
set_option maxHeartbeats 4000000 in
set_option maxRecDepth 100000 in
theorem c_SS_shift (l : Launch) (dC : Nat → ClassId) (dI : Nat → Nat → Nat) (cI cJ cG cZ : ClassId) (a : Nat → Nat) (sz : Nat) (fi : Nat → Int32) (fl : Nat → Int64) (ai : Nat → Nat → Int32) (al : Nat → Nat → Int64) (p0 : Int32) (p1 : Int32) (K : Int32 → (Nat → Int32) → (Nat → Nat → Int32) → Prop) (hw : SS_shift_w fi fl ai al p0 p1 K) : Met l y_SS_shift ws_SS_shift ({ frames := 3, cells := 0, slots := 0, locals := 67 }) (va_Pc [.ref (a 0), .int p0, .int p1] (zw_Bw (dC, dI) vwCl [(cI, .int), (cJ, .long), (cG, .array .int), (cZ, .boolean)] (cw cI cJ cG cZ a fi fl ai al) sz)) (va_Qi (fun r (u : zw_Z) => (zw_k_fi_air fl al K) r u.1 u.2.1 u.2.2.1 u.2.2.2) (fun u t => zw_E (dC, dI) vwCl [(cI, .int), (cJ, .long), (cG, .array .int), (cZ, .boolean)] (va_A (cw cI cJ cG cZ a fi fl ai al) sz) (cw cI cJ cG cZ a u.1 u.2.1 u.2.2.1 u.2.2.2) t) (va_A (cw cI cJ cG cZ a fi fl ai al) sz)) 0 0 (va_A (cw cI cJ cG cZ a fi fl ai al) sz) := by
  refine Met.ofW (cc := b_SS_shift) (maxL := 3) (ret := (Option.some FieldType.boolean)) (by decide) rfl ?_
  intro p e s m args below meth c s₁ B hml hv
  obtain ⟨rfl, hsz, hP, hK, hD0, hN⟩ := hv
  have hx := B.exec
  have hb := B.bytes
  have hr := B.returns
  have hts := atoms_spec (ws := ws_SS_shift) B.pre
  have ht : ∀ w ∈ zw_tbl, w.before _ s = true := fun w h => hts w (List.mem_cons_of_mem _ h)
  have hown : s.vm.findClass R_SS = some m.cls := findClass_of_methodNamed B.named
  have hlocks := B.notSynchronized
  subst hsz
  have hD := hD0.self (sz := s.heap.size)
  generalize hAe : va_A (cw cI cJ cG cZ a fi fl ai al) s.heap.size = A at hD ⊢
  have hA : ∀ q : Nat, s.heap.size ≤ q → A q := fun q h => by rw [← hAe]; exact Or.inr h
  have hS : va_S A s.heap s.heap [] := va_S.rf
  have hl := lv_entry ([.ref (a 0), .int p0, .int p1] : List Value) (n := 3) (Nat.le_of_ble_eq_true rfl)
  rw [lg_entry_eq]
  generalize (lg_sl ([.ref (a 0), .int p0, .int p1] : List Value) ++ List.replicate (3 - (lg_sl ([.ref (a 0), .int p0, .int p1] : List Value)).length) Slot.unset).toArray = ls at hl ⊢
  have hl : lv_has ls 3 [(0, .ref (a 0)), (1, .int p0), (2, .int p1)] := hl
  unfold SS_shift_w at hw
  obtain ⟨H, hH⟩ : ∃ H, H = s.heap := ⟨_, rfl⟩
  obtain ⟨locs, hlo⟩ : ∃ q : List Loc, q = [] := ⟨_, rfl⟩
  have hP : va_P (dC, dI) vwCl (cw cI cJ cG cZ a fi fl ai al) H := by rw [hH]; exact hP
  have hS : va_S A s.heap H locs := by rw [hH, hlo]; exact hS
  have key : W p l e (headSpec ws_SS_shift ({ frames := 3, cells := 0, slots := 0, locals := 67 })).room s m ([.ref (a 0), .int p0, .int p1] : List Value).toArray below meth c H locs 0 0 (MQ below (va_Qi (fun r (u : zw_Z) => (zw_k_fi_air fl al K) r u.1 u.2.1 u.2.2.1 u.2.2.2) (fun u t => zw_E (dC, dI) vwCl [(cI, .int), (cJ, .long), (cG, .array .int), (cZ, .boolean)] A (cw cI cJ cG cZ a u.1 u.2.1 u.2.2.1 u.2.2.2) t) A) ([.ref (a 0), .int p0, .int p1] : List Value).toArray s 0 0 A) (F0 m 0 ls []) := by
    refine lv_aload_n hx hb d_SS_shift_0 rfl (lv_at hl 0 rfl) ?_
    refine va_get (D := (dC, dI)) (ci := 0) (v := .ref (a 4)) (C := R_SS) (T := T_SS) (N := 9) hx hb ht in_SS hown hK hP 0 rfl rfl 2 (by decide) (ht _ kw_244) (fun _ h9 => h9) rfl d_SS_shift_1 ?_
    refine lv_iload_n hx hb d_SS_shift_4 rfl (lv_at hl 1 rfl) ?_
    refine lv_iload_n hx hb d_SS_shift_5 rfl (lv_at hl 2 rfl) ?_
    refine vp_callSi (va_Run.run (va_runV (As := [.int p0, .int p1]) (rest := []) ⟨hx, hb, hml, hown, hts⟩ (c_Pl_canMove l dC dI cI cJ cG cZ a fi fl ai al p0 p1 _ hw) (cwV 2 hts (zw_goodV kw_541 kw_542 kw_543 kw_3 kw_544) rfl rfl rfl hd_Pl_canMove ⟨Nat.le_of_ble_eq_true rfl, Nat.le_of_ble_eq_true rfl⟩) (zw_preV (ci := 3) (q0 := 4) hK hN hP rfl rfl) rfl rfl hl.1 rfl (lv_room (Nat.le_of_ble_eq_true rfl)) d_SS_shift_6 ⟨Nat.le_of_ble_eq_true rfl, Nat.le_of_ble_eq_true rfl⟩)) (fun r6 hw => ?_)
    refine lv_if_ne (tgt := 14) hx hb d_SS_shift_9 (by decide) (fun c9 => ?_) (fun c9 => ?_)
    · have hw := zw_ite_f c9 hw
      refine lv_aload_n hx hb d_SS_shift_14 rfl (lv_at hl 0 rfl) ?_
      refine va_get (D := (dC, dI)) (ci := 0) (v := .ref (a 4)) (C := R_SS) (T := T_SS) (N := 9) hx hb ht in_SS hown hK hP 0 rfl rfl 2 (by decide) (ht _ kw_244) (fun _ h9 => h9) rfl d_SS_shift_15 ?_
      refine lv_iload_n hx hb d_SS_shift_18 rfl (lv_at hl 1 rfl) ?_
      refine lv_iload_n hx hb d_SS_shift_19 rfl (lv_at hl 2 rfl) ?_
      refine zw_cv (va_runV (As := [.int p0, .int p1]) (rest := []) ⟨hx, hb, hml, hown, hts⟩ (c_Pl_move l dC dI cI cJ cG cZ a H.size fi fl ai al p0 p1 _ hw) (cwV 2 hts (zw_goodV kw_546 kw_547 kw_548 kw_3 kw_549) rfl rfl rfl hd_Pl_move ⟨Nat.le_of_ble_eq_true rfl, Nat.le_of_ble_eq_true rfl⟩) (zw_preVw (ci := 3) (q0 := 4) hK hN hP hD rfl rfl) rfl rfl hl.1 rfl (lv_room (Nat.le_of_ble_eq_true rfl)) d_SS_shift_20 ⟨Nat.le_of_ble_eq_true rfl, Nat.le_of_ble_eq_true rfl⟩) hD hS hA (fun fi_20 fl_20 ai_20 al_20 H locs hw hP hD hS => ?_)
      obtain ⟨rfl, rfl, hw⟩ := hw
      refine lv_iconst (v := (1 : Int32)) hx hb d_SS_shift_23 (by decide) ?_
      exact W.zret (v := (1 : Int32)) (ty := .boolean) hx hb hr rfl (fun t ht hW => ⟨⟨(1 : Int32), (fi_20, fl, ai_20, al), rfl, ⟨rfl, rfl, hw⟩, by rw [ht]; exact hP, va_K.moved hW.alike hK, hD⟩, hS.F ht⟩) hS.2.2 d_SS_shift_24
    · have hw := zw_ite_t c9 hw
      refine lv_iconst (v := (0 : Int32)) hx hb d_SS_shift_12 (by decide) ?_
      exact W.zret (v := (0 : Int32)) (ty := .boolean) hx hb hr rfl (fun t ht hW => ⟨⟨(0 : Int32), (fi, fl, ai, al), rfl, ⟨rfl, rfl, hw⟩, by rw [ht]; exact hP, va_K.moved hW.alike hK, hD⟩, hS.F ht⟩) hS.2.2 d_SS_shift_13
  rw [hH, hlo] at key
  exact key
def Pl_cutFrom_w (fi : Nat → Int32) (fl : Nat → Int64) (ai : Nat → Nat → Int32) (al : Nat → Nat → Int64) (p0 : Int32) (K : Int32 → (Nat → Int32) → Prop) : Prop :=
  zw_nm (fi 3) (fun (v4 : Int32) =>
  zw_lp1 (fun L5 (fi5 : Nat → Int32) =>
  if (fi5 3) ≤ 0 then (
    zw_lp1 (fun L40 (fi40 : Nat → Int32) =>
    zw_jn0 (
    zw_nm (va_up fi40 2 p0) (fun (fi_77 : Nat → Int32) =>
    zw_jn1 (fun (fi92 : Nat → Int32) =>
    K (v4 - (fi92 3)) fi92) (fun J92 =>
    if (fi_77 2) = 0 then (
      zw_nm (va_up fi_77 5 (-1 : Int32)) (fun (fi_89 : Nat → Int32) =>
      J92 fi_89))
    else (
      J92 fi_77)))) (fun J75 =>
    if (fi40 4) ≤ 0 then (
      J75)
    else (
      vp_in ((fi40 4) - (1 : Int32)) 6 ∧ (
      if (ai 11 ((fi40 4) - (1 : Int32)).toNatClampNeg) < p0 then (
        J75)
      else (
        zw_nm (va_up fi40 4 ((fi40 4) - (1 : Int32))) (fun (fi_69 : Nat → Int32) =>
        L40 fi_69)))))) fi5)
  else (
    vp_in ((fi5 3) - (1 : Int32)) 40 ∧ (
    if (ai 9 ((fi5 3) - (1 : Int32)).toNatClampNeg) < p0 then (
      zw_lp1 (fun L40_1 (fi40_1 : Nat → Int32) =>
      zw_jn0 (
      zw_nm (va_up fi40_1 2 p0) (fun (fi_77_1 : Nat → Int32) =>
      zw_jn1 (fun (fi92_1 : Nat → Int32) =>
      K (v4 - (fi92_1 3)) fi92_1) (fun J92_1 =>
      if (fi_77_1 2) = 0 then (
        zw_nm (va_up fi_77_1 5 (-1 : Int32)) (fun (fi_89_1 : Nat → Int32) =>
        J92_1 fi_89_1))
      else (
        J92_1 fi_77_1)))) (fun J75_1 =>
      if (fi40_1 4) ≤ 0 then (
        J75_1)
      else (
        vp_in ((fi40_1 4) - (1 : Int32)) 6 ∧ (
        if (ai 11 ((fi40_1 4) - (1 : Int32)).toNatClampNeg) < p0 then (
          J75_1)
        else (
          zw_nm (va_up fi40_1 4 ((fi40_1 4) - (1 : Int32))) (fun (fi_69_1 : Nat → Int32) =>
          L40_1 fi_69_1)))))) fi5)
    else (
      zw_nm (va_up fi5 3 ((fi5 3) - (1 : Int32))) (fun (fi_34 : Nat → Int32) =>
      L5 fi_34))))) fi)
theorem d_Pl_cutFrom_0 : decode b_Pl_cutFrom 0 = .ok (.aload_n 0, 1) := by decide +kernel
theorem d_Pl_cutFrom_1 : decode b_Pl_cutFrom 1 = .ok (.getfield 44, 3) := by decide +kernel
theorem d_Pl_cutFrom_4 : decode b_Pl_cutFrom 4 = .ok (.istore_n 2, 1) := by decide +kernel
theorem d_Pl_cutFrom_5 : decode b_Pl_cutFrom 5 = .ok (.aload_n 0, 1) := by decide +kernel
theorem d_Pl_cutFrom_6 : decode b_Pl_cutFrom 6 = .ok (.getfield 44, 3) := by decide +kernel
theorem d_Pl_cutFrom_9 : decode b_Pl_cutFrom 9 = .ok (.ifCond .le (31), 3) := by decide +kernel
theorem d_Pl_cutFrom_12 : decode b_Pl_cutFrom 12 = .ok (.aload_n 0, 1) := by decide +kernel
theorem d_Pl_cutFrom_13 : decode b_Pl_cutFrom 13 = .ok (.getfield 24, 3) := by decide +kernel
theorem d_Pl_cutFrom_16 : decode b_Pl_cutFrom 16 = .ok (.aload_n 0, 1) := by decide +kernel
theorem d_Pl_cutFrom_17 : decode b_Pl_cutFrom 17 = .ok (.getfield 44, 3) := by decide +kernel
theorem d_Pl_cutFrom_20 : decode b_Pl_cutFrom 20 = .ok (.iconst 1, 1) := by decide +kernel
theorem d_Pl_cutFrom_21 : decode b_Pl_cutFrom 21 = .ok (.isub, 1) := by decide +kernel
theorem d_Pl_cutFrom_22 : decode b_Pl_cutFrom 22 = .ok (.iaload, 1) := by decide +kernel
theorem d_Pl_cutFrom_23 : decode b_Pl_cutFrom 23 = .ok (.iload_n 1, 1) := by decide +kernel
theorem d_Pl_cutFrom_24 : decode b_Pl_cutFrom 24 = .ok (.if_icmp .lt (16), 3) := by decide +kernel
theorem d_Pl_cutFrom_27 : decode b_Pl_cutFrom 27 = .ok (.aload_n 0, 1) := by decide +kernel
theorem d_Pl_cutFrom_28 : decode b_Pl_cutFrom 28 = .ok (.dup, 1) := by decide +kernel
theorem d_Pl_cutFrom_29 : decode b_Pl_cutFrom 29 = .ok (.getfield 44, 3) := by decide +kernel
theorem d_Pl_cutFrom_32 : decode b_Pl_cutFrom 32 = .ok (.iconst 1, 1) := by decide +kernel
theorem d_Pl_cutFrom_33 : decode b_Pl_cutFrom 33 = .ok (.isub, 1) := by decide +kernel
theorem d_Pl_cutFrom_34 : decode b_Pl_cutFrom 34 = .ok (.putfield 44, 3) := by decide +kernel
theorem d_Pl_cutFrom_37 : decode b_Pl_cutFrom 37 = .ok (.goto (-32), 3) := by decide +kernel
theorem d_Pl_cutFrom_40 : decode b_Pl_cutFrom 40 = .ok (.aload_n 0, 1) := by decide +kernel
theorem d_Pl_cutFrom_41 : decode b_Pl_cutFrom 41 = .ok (.getfield 64, 3) := by decide +kernel
theorem d_Pl_cutFrom_44 : decode b_Pl_cutFrom 44 = .ok (.ifCond .le (31), 3) := by decide +kernel
theorem d_Pl_cutFrom_47 : decode b_Pl_cutFrom 47 = .ok (.aload_n 0, 1) := by decide +kernel
theorem d_Pl_cutFrom_48 : decode b_Pl_cutFrom 48 = .ok (.getfield 30, 3) := by decide +kernel
theorem d_Pl_cutFrom_51 : decode b_Pl_cutFrom 51 = .ok (.aload_n 0, 1) := by decide +kernel
theorem d_Pl_cutFrom_52 : decode b_Pl_cutFrom 52 = .ok (.getfield 64, 3) := by decide +kernel
theorem d_Pl_cutFrom_55 : decode b_Pl_cutFrom 55 = .ok (.iconst 1, 1) := by decide +kernel
theorem d_Pl_cutFrom_56 : decode b_Pl_cutFrom 56 = .ok (.isub, 1) := by decide +kernel
theorem d_Pl_cutFrom_57 : decode b_Pl_cutFrom 57 = .ok (.iaload, 1) := by decide +kernel
theorem d_Pl_cutFrom_58 : decode b_Pl_cutFrom 58 = .ok (.iload_n 1, 1) := by decide +kernel
theorem d_Pl_cutFrom_59 : decode b_Pl_cutFrom 59 = .ok (.if_icmp .lt (16), 3) := by decide +kernel
theorem d_Pl_cutFrom_62 : decode b_Pl_cutFrom 62 = .ok (.aload_n 0, 1) := by decide +kernel
theorem d_Pl_cutFrom_63 : decode b_Pl_cutFrom 63 = .ok (.dup, 1) := by decide +kernel
theorem d_Pl_cutFrom_64 : decode b_Pl_cutFrom 64 = .ok (.getfield 64, 3) := by decide +kernel
theorem d_Pl_cutFrom_67 : decode b_Pl_cutFrom 67 = .ok (.iconst 1, 1) := by decide +kernel
theorem d_Pl_cutFrom_68 : decode b_Pl_cutFrom 68 = .ok (.isub, 1) := by decide +kernel
theorem d_Pl_cutFrom_69 : decode b_Pl_cutFrom 69 = .ok (.putfield 64, 3) := by decide +kernel
theorem d_Pl_cutFrom_72 : decode b_Pl_cutFrom 72 = .ok (.goto (-32), 3) := by decide +kernel
theorem d_Pl_cutFrom_75 : decode b_Pl_cutFrom 75 = .ok (.aload_n 0, 1) := by decide +kernel
theorem d_Pl_cutFrom_76 : decode b_Pl_cutFrom 76 = .ok (.iload_n 1, 1) := by decide +kernel
theorem d_Pl_cutFrom_77 : decode b_Pl_cutFrom 77 = .ok (.putfield 37, 3) := by decide +kernel
theorem d_Pl_cutFrom_80 : decode b_Pl_cutFrom 80 = .ok (.aload_n 0, 1) := by decide +kernel
theorem d_Pl_cutFrom_81 : decode b_Pl_cutFrom 81 = .ok (.getfield 37, 3) := by decide +kernel
theorem d_Pl_cutFrom_84 : decode b_Pl_cutFrom 84 = .ok (.ifCond .ne (8), 3) := by decide +kernel
theorem d_Pl_cutFrom_87 : decode b_Pl_cutFrom 87 = .ok (.aload_n 0, 1) := by decide +kernel
theorem d_Pl_cutFrom_88 : decode b_Pl_cutFrom 88 = .ok (.iconst (-1), 1) := by decide +kernel
theorem d_Pl_cutFrom_89 : decode b_Pl_cutFrom 89 = .ok (.putfield 33, 3) := by decide +kernel
theorem d_Pl_cutFrom_92 : decode b_Pl_cutFrom 92 = .ok (.iload_n 2, 1) := by decide +kernel
theorem d_Pl_cutFrom_93 : decode b_Pl_cutFrom 93 = .ok (.aload_n 0, 1) := by decide +kernel
theorem d_Pl_cutFrom_94 : decode b_Pl_cutFrom 94 = .ok (.getfield 44, 3) := by decide +kernel
theorem d_Pl_cutFrom_97 : decode b_Pl_cutFrom 97 = .ok (.isub, 1) := by decide +kernel
theorem d_Pl_cutFrom_98 : decode b_Pl_cutFrom 98 = .ok (.ireturn, 1) := by decide +kernel
set_option maxHeartbeats 4000000 in
set_option maxRecDepth 100000 in
theorem c_Pl_cutFrom (l : Launch) (dC : Nat → ClassId) (dI : Nat → Nat → Nat) (cI cJ cG cZ : ClassId) (a : Nat → Nat) (sz : Nat) (fi : Nat → Int32) (fl : Nat → Int64) (ai : Nat → Nat → Int32) (al : Nat → Nat → Int64) (p0 : Int32) (K : Int32 → (Nat → Int32) → Prop) (hw : Pl_cutFrom_w fi fl ai al p0 K) : Met l y_Pl_cutFrom ws_Pl_cutFrom ({ frames := 0, cells := 0, slots := 0, locals := 0 }) (va_Pc [.ref (a 4), .int p0] (zw_Bw (dC, dI) vwCl [(cI, .int), (cJ, .long), (cG, .array .int), (cZ, .boolean)] (cw cI cJ cG cZ a fi fl ai al) sz)) (va_Qi (fun r (u : zw_Z) => (zw_k_fir fl ai al K) r u.1 u.2.1 u.2.2.1 u.2.2.2) (fun u t => zw_E (dC, dI) vwCl [(cI, .int), (cJ, .long), (cG, .array .int), (cZ, .boolean)] (va_A (cw cI cJ cG cZ a fi fl ai al) sz) (cw cI cJ cG cZ a u.1 u.2.1 u.2.2.1 u.2.2.2) t) (va_A (cw cI cJ cG cZ a fi fl ai al) sz)) 0 0 (va_A (cw cI cJ cG cZ a fi fl ai al) sz) := by
  refine Met.ofW (cc := b_Pl_cutFrom) (maxL := 3) (ret := (Option.some FieldType.int)) (by decide) rfl ?_
  intro p e s m args below meth c s₁ B hml hv
  obtain ⟨rfl, hsz, hP, hK, hD0, hN⟩ := hv
  have hx := B.exec
  have hb := B.bytes
  have hr := B.returns
  have hts := atoms_spec (ws := ws_Pl_cutFrom) B.pre
  have ht : ∀ w ∈ zw_tbl, w.before _ s = true := fun w h => hts w (List.mem_cons_of_mem _ h)
  have hown : s.vm.findClass R_Pl = some m.cls := findClass_of_methodNamed B.named
  have hlocks := B.notSynchronized
  subst hsz
  have hD := hD0.self (sz := s.heap.size)
  generalize hAe : va_A (cw cI cJ cG cZ a fi fl ai al) s.heap.size = A at hD ⊢
  have hA : ∀ q : Nat, s.heap.size ≤ q → A q := fun q h => by rw [← hAe]; exact Or.inr h
  have hS : va_S A s.heap s.heap [] := va_S.rf
  have hl := lv_entry ([.ref (a 4), .int p0] : List Value) (n := 3) (Nat.le_of_ble_eq_true rfl)
  rw [lg_entry_eq]
  generalize (lg_sl ([.ref (a 4), .int p0] : List Value) ++ List.replicate (3 - (lg_sl ([.ref (a 4), .int p0] : List Value)).length) Slot.unset).toArray = ls at hl ⊢
  have hl : lv_has ls 3 [(0, .ref (a 4)), (1, .int p0)] := hl
  unfold Pl_cutFrom_w at hw
  obtain ⟨H, hH⟩ : ∃ H, H = s.heap := ⟨_, rfl⟩
  obtain ⟨locs, hlo⟩ : ∃ q : List Loc, q = [] := ⟨_, rfl⟩
  have hP : va_P (dC, dI) vwCl (cw cI cJ cG cZ a fi fl ai al) H := by rw [hH]; exact hP
  have hS : va_S A s.heap H locs := by rw [hH, hlo]; exact hS
  have key : W p l e (headSpec ws_Pl_cutFrom ({ frames := 0, cells := 0, slots := 0, locals := 0 })).room s m ([.ref (a 4), .int p0] : List Value).toArray below meth c H locs 0 0 (MQ below (va_Qi (fun r (u : zw_Z) => (zw_k_fir fl ai al K) r u.1 u.2.1 u.2.2.1 u.2.2.2) (fun u t => zw_E (dC, dI) vwCl [(cI, .int), (cJ, .long), (cG, .array .int), (cZ, .boolean)] A (cw cI cJ cG cZ a u.1 u.2.1 u.2.2.1 u.2.2.2) t) A) ([.ref (a 4), .int p0] : List Value).toArray s 0 0 A) (F0 m 0 ls []) := by
    refine lv_aload_n hx hb d_Pl_cutFrom_0 rfl (lv_at hl 0 rfl) ?_
    refine va_get (D := (dC, dI)) (ci := 3) (v := .int (fi 3)) (C := R_Pl) (T := T_Pl) (N := 11) hx hb ht in_Pl hown hK hP 4 rfl rfl 8 (by decide) (ht _ kw_63) (fun _ h9 => h9) rfl d_Pl_cutFrom_1 ?_
    refine lv_topi (fun v4 ev4 => ?_)
    have hw := zw_nm_x ev4 hw
    refine lv_istore_n (lv' := [(2, .int v4), (0, .ref (a 4)), (1, .int p0)]) hx hb d_Pl_cutFrom_4 rfl hl (by decide) rfl (fun ls hl => ?_)
    refine (zw_lp1_i (P := fun (fi5 : Nat → Int32) => ∀ (H : Heap) (locs : List Loc) (ls : Array Slot), va_P (dC, dI) vwCl (cw cI cJ cG cZ a fi5 fl ai al) H → va_D A (cw cI cJ cG cZ a fi5 fl ai al) → va_S A s.heap H locs → lv_has ls 3 [(0, .ref (a 4)), (1, .int p0), (2, .int v4)] → W p l e (headSpec ws_Pl_cutFrom ({ frames := 0, cells := 0, slots := 0, locals := 0 })).room s m ([.ref (a 4), .int p0] : List Value).toArray below meth c H locs 0 0 (MQ below (va_Qi (fun r (u : zw_Z) => (zw_k_fir fl ai al K) r u.1 u.2.1 u.2.2.1 u.2.2.2) (fun u t => zw_E (dC, dI) vwCl [(cI, .int), (cJ, .long), (cG, .array .int), (cZ, .boolean)] A (cw cI cJ cG cZ a u.1 u.2.1 u.2.2.1 u.2.2.2) t) A) ([.ref (a 4), .int p0] : List Value).toArray s 0 0 A) (F0 m 5 ls [])) hw (fun L5 fi5 ih5 hw H locs ls hP hD hS hl => ?_)) H locs ls hP hD hS (lv_sub hl [1, 2, 0] rfl)
    refine lv_aload_n hx hb d_Pl_cutFrom_5 rfl (lv_at hl 0 rfl) ?_
    refine va_get (D := (dC, dI)) (ci := 3) (v := .int (fi5 3)) (C := R_Pl) (T := T_Pl) (N := 11) hx hb ht in_Pl hown hK hP 4 rfl rfl 8 (by decide) (ht _ kw_63) (fun _ h9 => h9) rfl d_Pl_cutFrom_6 ?_
    refine lv_if_le (tgt := 40) hx hb d_Pl_cutFrom_9 (by decide) (fun c9 => ?_) (fun c9 => ?_)
    · have hw := zw_ite_t c9 hw
      refine (zw_lp1_i (P := fun (fi40 : Nat → Int32) => ∀ (H : Heap) (locs : List Loc) (ls : Array Slot), va_P (dC, dI) vwCl (cw cI cJ cG cZ a fi40 fl ai al) H → va_D A (cw cI cJ cG cZ a fi40 fl ai al) → va_S A s.heap H locs → lv_has ls 3 [(0, .ref (a 4)), (1, .int p0), (2, .int v4)] → W p l e (headSpec ws_Pl_cutFrom ({ frames := 0, cells := 0, slots := 0, locals := 0 })).room s m ([.ref (a 4), .int p0] : List Value).toArray below meth c H locs 0 0 (MQ below (va_Qi (fun r (u : zw_Z) => (zw_k_fir fl ai al K) r u.1 u.2.1 u.2.2.1 u.2.2.2) (fun u t => zw_E (dC, dI) vwCl [(cI, .int), (cJ, .long), (cG, .array .int), (cZ, .boolean)] A (cw cI cJ cG cZ a u.1 u.2.1 u.2.2.1 u.2.2.2) t) A) ([.ref (a 4), .int p0] : List Value).toArray s 0 0 A) (F0 m 40 ls [])) hw (fun L40 fi40 ih40 hw H locs ls hP hD hS hl => ?_)) H locs ls hP hD hS (lv_sub hl [0, 1, 2] rfl)
      refine lv_aload_n hx hb d_Pl_cutFrom_40 rfl (lv_at hl 0 rfl) ?_
      refine va_get (D := (dC, dI)) (ci := 3) (v := .int (fi40 4)) (C := R_Pl) (T := T_Pl) (N := 11) hx hb ht in_Pl hown hK hP 4 rfl rfl 9 (by decide) (ht _ kw_68) (fun _ h9 => h9) rfl d_Pl_cutFrom_41 ?_
      refine zw_jn0_i (P := ∀ (H : Heap) (locs : List Loc) (ls : Array Slot), va_P (dC, dI) vwCl (cw cI cJ cG cZ a fi40 fl ai al) H → va_D A (cw cI cJ cG cZ a fi40 fl ai al) → va_S A s.heap H locs → lv_has ls 3 [(0, .ref (a 4)), (1, .int p0), (2, .int v4)] → W p l e (headSpec ws_Pl_cutFrom ({ frames := 0, cells := 0, slots := 0, locals := 0 })).room s m ([.ref (a 4), .int p0] : List Value).toArray below meth c H locs 0 0 (MQ below (va_Qi (fun r (u : zw_Z) => (zw_k_fir fl ai al K) r u.1 u.2.1 u.2.2.1 u.2.2.2) (fun u t => zw_E (dC, dI) vwCl [(cI, .int), (cJ, .long), (cG, .array .int), (cZ, .boolean)] A (cw cI cJ cG cZ a u.1 u.2.1 u.2.2.1 u.2.2.2) t) A) ([.ref (a 4), .int p0] : List Value).toArray s 0 0 A) (F0 m 75 ls [])) hw (fun hw H locs ls hP hD hS hl => ?_) (fun J75 hj75 hw => ?_)
      · refine lv_aload_n hx hb d_Pl_cutFrom_75 rfl (lv_at hl 0 rfl) ?_
        refine lv_iload_n hx hb d_Pl_cutFrom_76 rfl (lv_at hl 1 rfl) ?_
        refine va_put (D := (dC, dI)) (ci := 3) (v := .int p0) (ty := .int) (C := R_Pl) (T := T_Pl) (N := 11) hx hb ht in_Pl t_Pl t_Pl_ok n_Pl hown hK hP hD hS 4 rfl rfl 7 (by decide) (ht _ kw_59) (fun _ h9 => h9) rfl (by decide +kernel) rfl rfl (Nat.le_of_ble_eq_true rfl) d_Pl_cutFrom_77 (fun H locs hP hD hS => ?_)
        have hP := cwpfi_2 hP
        have hD := cwdfi_2 hD
        obtain ⟨fi_77, efi_77⟩ : ∃ z, z = va_up fi40 2 p0 := ⟨_, rfl⟩
        rw [← efi_77] at hP hD
        have hw := zw_nm_x efi_77 hw
        refine lv_aload_n hx hb d_Pl_cutFrom_80 rfl (lv_at hl 0 rfl) ?_
        refine va_get (D := (dC, dI)) (ci := 3) (v := .int (fi_77 2)) (C := R_Pl) (T := T_Pl) (N := 11) hx hb ht in_Pl hown hK hP 4 rfl rfl 7 (by decide) (ht _ kw_59) (fun _ h9 => h9) rfl d_Pl_cutFrom_81 ?_
        refine zw_jn1_i (P := fun (fi92 : Nat → Int32) => ∀ (H : Heap) (locs : List Loc) (ls : Array Slot), va_P (dC, dI) vwCl (cw cI cJ cG cZ a fi92 fl ai al) H → va_D A (cw cI cJ cG cZ a fi92 fl ai al) → va_S A s.heap H locs → lv_has ls 3 [(0, .ref (a 4)), (2, .int v4)] → W p l e (headSpec ws_Pl_cutFrom ({ frames := 0, cells := 0, slots := 0, locals := 0 })).room s m ([.ref (a 4), .int p0] : List Value).toArray below meth c H locs 0 0 (MQ below (va_Qi (fun r (u : zw_Z) => (zw_k_fir fl ai al K) r u.1 u.2.1 u.2.2.1 u.2.2.2) (fun u t => zw_E (dC, dI) vwCl [(cI, .int), (cJ, .long), (cG, .array .int), (cZ, .boolean)] A (cw cI cJ cG cZ a u.1 u.2.1 u.2.2.1 u.2.2.2) t) A) ([.ref (a 4), .int p0] : List Value).toArray s 0 0 A) (F0 m 92 ls [])) hw (fun fi92 hw H locs ls hP hD hS hl => ?_) (fun J92 hj92 hw => ?_)
        · refine lv_iload_n hx hb d_Pl_cutFrom_92 rfl (lv_at hl 1 rfl) ?_
          refine lv_aload_n hx hb d_Pl_cutFrom_93 rfl (lv_at hl 0 rfl) ?_
          refine va_get (D := (dC, dI)) (ci := 3) (v := .int (fi92 3)) (C := R_Pl) (T := T_Pl) (N := 11) hx hb ht in_Pl hown hK hP 4 rfl rfl 8 (by decide) (ht _ kw_63) (fun _ h9 => h9) rfl d_Pl_cutFrom_94 ?_
          refine lv_isub hx hb d_Pl_cutFrom_97 ?_
          exact W.iret (v := (v4 - (fi92 3))) hx hb hr (fun t ht hW => ⟨⟨(v4 - (fi92 3)), (fi92, fl, ai, al), rfl, ⟨rfl, rfl, rfl, hw⟩, by rw [ht]; exact hP, va_K.moved hW.alike hK, hD⟩, hS.F ht⟩) hS.2.2 d_Pl_cutFrom_98
        · refine lv_if_ne (tgt := 92) hx hb d_Pl_cutFrom_84 (by decide) (fun c84 => ?_) (fun c84 => ?_)
          · have hw := zw_ite_f c84 hw
            exact (hj92 fi_77 hw) H locs ls hP hD hS (lv_sub hl [0, 2] rfl)
          · have hw := zw_ite_t c84 hw
            refine lv_aload_n hx hb d_Pl_cutFrom_87 rfl (lv_at hl 0 rfl) ?_
            refine lv_iconst (v := (-1 : Int32)) hx hb d_Pl_cutFrom_88 (by decide) ?_
            refine va_put (D := (dC, dI)) (ci := 3) (v := .int (-1 : Int32)) (ty := .int) (C := R_Pl) (T := T_Pl) (N := 11) hx hb ht in_Pl t_Pl t_Pl_ok n_Pl hown hK hP hD hS 4 rfl rfl 10 (by decide) (ht _ kw_70) (fun _ h9 => h9) rfl (by decide +kernel) rfl rfl (Nat.le_of_ble_eq_true rfl) d_Pl_cutFrom_89 (fun H locs hP hD hS => ?_)
            have hP := cwpfi_5 hP
            have hD := cwdfi_5 hD
            obtain ⟨fi_89, efi_89⟩ : ∃ z, z = va_up fi_77 5 (-1 : Int32) := ⟨_, rfl⟩
            rw [← efi_89] at hP hD
            have hw := zw_nm_x efi_89 hw
            exact (hj92 fi_89 hw) H locs ls hP hD hS (lv_sub hl [0, 2] rfl)
      · refine lv_if_le (tgt := 75) hx hb d_Pl_cutFrom_44 (by decide) (fun c44 => ?_) (fun c44 => ?_)
        · have hw := zw_ite_t c44 hw
          exact (hj75  hw) H locs ls hP hD hS (lv_sub hl [0, 1, 2] rfl)
        · have hw := zw_ite_f c44 hw
          refine lv_aload_n hx hb d_Pl_cutFrom_47 rfl (lv_at hl 0 rfl) ?_
          refine va_get (D := (dC, dI)) (ci := 3) (v := .ref (a 11)) (C := R_Pl) (T := T_Pl) (N := 11) hx hb ht in_Pl hown hK hP 4 rfl rfl 6 (by decide) (ht _ kw_56) (fun _ h9 => h9) rfl d_Pl_cutFrom_48 ?_
          refine lv_aload_n hx hb d_Pl_cutFrom_51 rfl (lv_at hl 0 rfl) ?_
          refine va_get (D := (dC, dI)) (ci := 3) (v := .int (fi40 4)) (C := R_Pl) (T := T_Pl) (N := 11) hx hb ht in_Pl hown hK hP 4 rfl rfl 9 (by decide) (ht _ kw_68) (fun _ h9 => h9) rfl d_Pl_cutFrom_52 ?_
          refine lv_iconst (v := (1 : Int32)) hx hb d_Pl_cutFrom_55 (by decide) ?_
          refine lv_isub hx hb d_Pl_cutFrom_56 ?_
          obtain ⟨h57, hw⟩ := hw
          refine va_iald (f := ai 11) hx hb hK hP 11 0 rfl rfl h57 d_Pl_cutFrom_57 ?_
          refine lv_iload_n hx hb d_Pl_cutFrom_58 rfl (lv_at hl 1 rfl) ?_
          refine lv_icmp_lt (tgt := 75) hx hb d_Pl_cutFrom_59 (by decide) (fun c59 => ?_) (fun c59 => ?_)
          · have hw := zw_ite_t c59 hw
            exact (hj75  hw) H locs ls hP hD hS (lv_sub hl [0, 1, 2] rfl)
          · have hw := zw_ite_f c59 hw
            refine lv_aload_n hx hb d_Pl_cutFrom_62 rfl (lv_at hl 0 rfl) ?_
            refine lv_dup hx hb d_Pl_cutFrom_63 rfl ?_
            refine va_get (D := (dC, dI)) (ci := 3) (v := .int (fi40 4)) (C := R_Pl) (T := T_Pl) (N := 11) hx hb ht in_Pl hown hK hP 4 rfl rfl 9 (by decide) (ht _ kw_68) (fun _ h9 => h9) rfl d_Pl_cutFrom_64 ?_
            refine lv_iconst (v := (1 : Int32)) hx hb d_Pl_cutFrom_67 (by decide) ?_
            refine lv_isub hx hb d_Pl_cutFrom_68 ?_
            refine va_put (D := (dC, dI)) (ci := 3) (v := .int ((fi40 4) - (1 : Int32))) (ty := .int) (C := R_Pl) (T := T_Pl) (N := 11) hx hb ht in_Pl t_Pl t_Pl_ok n_Pl hown hK hP hD hS 4 rfl rfl 9 (by decide) (ht _ kw_68) (fun _ h9 => h9) rfl (by decide +kernel) rfl rfl (Nat.le_of_ble_eq_true rfl) d_Pl_cutFrom_69 (fun H locs hP hD hS => ?_)
            have hP := cwpfi_4 hP
            have hD := cwdfi_4 hD
            obtain ⟨fi_69, efi_69⟩ : ∃ z, z = va_up fi40 4 ((fi40 4) - (1 : Int32)) := ⟨_, rfl⟩
            rw [← efi_69] at hP hD
            have hw := zw_nm_x efi_69 hw
            refine lv_goto (tgt := 40) hx hb d_Pl_cutFrom_72 (by decide) ?_
            exact (ih40 fi_69 hw) H locs ls hP hD hS (lv_sub hl [0, 1, 2] rfl)
    · have hw := zw_ite_f c9 hw
      refine lv_aload_n hx hb d_Pl_cutFrom_12 rfl (lv_at hl 0 rfl) ?_
      refine va_get (D := (dC, dI)) (ci := 3) (v := .ref (a 9)) (C := R_Pl) (T := T_Pl) (N := 11) hx hb ht in_Pl hown hK hP 4 rfl rfl 4 (by decide) (ht _ kw_52) (fun _ h9 => h9) rfl d_Pl_cutFrom_13 ?_
      refine lv_aload_n hx hb d_Pl_cutFrom_16 rfl (lv_at hl 0 rfl) ?_
      refine va_get (D := (dC, dI)) (ci := 3) (v := .int (fi5 3)) (C := R_Pl) (T := T_Pl) (N := 11) hx hb ht in_Pl hown hK hP 4 rfl rfl 8 (by decide) (ht _ kw_63) (fun _ h9 => h9) rfl d_Pl_cutFrom_17 ?_
      refine lv_iconst (v := (1 : Int32)) hx hb d_Pl_cutFrom_20 (by decide) ?_
      refine lv_isub hx hb d_Pl_cutFrom_21 ?_
      obtain ⟨h22, hw⟩ := hw
      refine va_iald (f := ai 9) hx hb hK hP 9 0 rfl rfl h22 d_Pl_cutFrom_22 ?_
      refine lv_iload_n hx hb d_Pl_cutFrom_23 rfl (lv_at hl 1 rfl) ?_
      refine lv_icmp_lt (tgt := 40) hx hb d_Pl_cutFrom_24 (by decide) (fun c24 => ?_) (fun c24 => ?_)
      · have hw := zw_ite_t c24 hw
        refine (zw_lp1_i (P := fun (fi40_1 : Nat → Int32) => ∀ (H : Heap) (locs : List Loc) (ls : Array Slot), va_P (dC, dI) vwCl (cw cI cJ cG cZ a fi40_1 fl ai al) H → va_D A (cw cI cJ cG cZ a fi40_1 fl ai al) → va_S A s.heap H locs → lv_has ls 3 [(0, .ref (a 4)), (1, .int p0), (2, .int v4)] → W p l e (headSpec ws_Pl_cutFrom ({ frames := 0, cells := 0, slots := 0, locals := 0 })).room s m ([.ref (a 4), .int p0] : List Value).toArray below meth c H locs 0 0 (MQ below (va_Qi (fun r (u : zw_Z) => (zw_k_fir fl ai al K) r u.1 u.2.1 u.2.2.1 u.2.2.2) (fun u t => zw_E (dC, dI) vwCl [(cI, .int), (cJ, .long), (cG, .array .int), (cZ, .boolean)] A (cw cI cJ cG cZ a u.1 u.2.1 u.2.2.1 u.2.2.2) t) A) ([.ref (a 4), .int p0] : List Value).toArray s 0 0 A) (F0 m 40 ls [])) hw (fun L40_1 fi40_1 ih40_1 hw H locs ls hP hD hS hl => ?_)) H locs ls hP hD hS (lv_sub hl [0, 1, 2] rfl)
        refine lv_aload_n hx hb d_Pl_cutFrom_40 rfl (lv_at hl 0 rfl) ?_
        refine va_get (D := (dC, dI)) (ci := 3) (v := .int (fi40_1 4)) (C := R_Pl) (T := T_Pl) (N := 11) hx hb ht in_Pl hown hK hP 4 rfl rfl 9 (by decide) (ht _ kw_68) (fun _ h9 => h9) rfl d_Pl_cutFrom_41 ?_
        refine zw_jn0_i (P := ∀ (H : Heap) (locs : List Loc) (ls : Array Slot), va_P (dC, dI) vwCl (cw cI cJ cG cZ a fi40_1 fl ai al) H → va_D A (cw cI cJ cG cZ a fi40_1 fl ai al) → va_S A s.heap H locs → lv_has ls 3 [(0, .ref (a 4)), (1, .int p0), (2, .int v4)] → W p l e (headSpec ws_Pl_cutFrom ({ frames := 0, cells := 0, slots := 0, locals := 0 })).room s m ([.ref (a 4), .int p0] : List Value).toArray below meth c H locs 0 0 (MQ below (va_Qi (fun r (u : zw_Z) => (zw_k_fir fl ai al K) r u.1 u.2.1 u.2.2.1 u.2.2.2) (fun u t => zw_E (dC, dI) vwCl [(cI, .int), (cJ, .long), (cG, .array .int), (cZ, .boolean)] A (cw cI cJ cG cZ a u.1 u.2.1 u.2.2.1 u.2.2.2) t) A) ([.ref (a 4), .int p0] : List Value).toArray s 0 0 A) (F0 m 75 ls [])) hw (fun hw H locs ls hP hD hS hl => ?_) (fun J75_1 hj75_1 hw => ?_)
        · refine lv_aload_n hx hb d_Pl_cutFrom_75 rfl (lv_at hl 0 rfl) ?_
          refine lv_iload_n hx hb d_Pl_cutFrom_76 rfl (lv_at hl 1 rfl) ?_
          refine va_put (D := (dC, dI)) (ci := 3) (v := .int p0) (ty := .int) (C := R_Pl) (T := T_Pl) (N := 11) hx hb ht in_Pl t_Pl t_Pl_ok n_Pl hown hK hP hD hS 4 rfl rfl 7 (by decide) (ht _ kw_59) (fun _ h9 => h9) rfl (by decide +kernel) rfl rfl (Nat.le_of_ble_eq_true rfl) d_Pl_cutFrom_77 (fun H locs hP hD hS => ?_)
          have hP := cwpfi_2 hP
          have hD := cwdfi_2 hD
          obtain ⟨fi_77_1, efi_77_1⟩ : ∃ z, z = va_up fi40_1 2 p0 := ⟨_, rfl⟩
          rw [← efi_77_1] at hP hD
          have hw := zw_nm_x efi_77_1 hw
          refine lv_aload_n hx hb d_Pl_cutFrom_80 rfl (lv_at hl 0 rfl) ?_
          refine va_get (D := (dC, dI)) (ci := 3) (v := .int (fi_77_1 2)) (C := R_Pl) (T := T_Pl) (N := 11) hx hb ht in_Pl hown hK hP 4 rfl rfl 7 (by decide) (ht _ kw_59) (fun _ h9 => h9) rfl d_Pl_cutFrom_81 ?_
          refine zw_jn1_i (P := fun (fi92_1 : Nat → Int32) => ∀ (H : Heap) (locs : List Loc) (ls : Array Slot), va_P (dC, dI) vwCl (cw cI cJ cG cZ a fi92_1 fl ai al) H → va_D A (cw cI cJ cG cZ a fi92_1 fl ai al) → va_S A s.heap H locs → lv_has ls 3 [(0, .ref (a 4)), (2, .int v4)] → W p l e (headSpec ws_Pl_cutFrom ({ frames := 0, cells := 0, slots := 0, locals := 0 })).room s m ([.ref (a 4), .int p0] : List Value).toArray below meth c H locs 0 0 (MQ below (va_Qi (fun r (u : zw_Z) => (zw_k_fir fl ai al K) r u.1 u.2.1 u.2.2.1 u.2.2.2) (fun u t => zw_E (dC, dI) vwCl [(cI, .int), (cJ, .long), (cG, .array .int), (cZ, .boolean)] A (cw cI cJ cG cZ a u.1 u.2.1 u.2.2.1 u.2.2.2) t) A) ([.ref (a 4), .int p0] : List Value).toArray s 0 0 A) (F0 m 92 ls [])) hw (fun fi92_1 hw H locs ls hP hD hS hl => ?_) (fun J92_1 hj92_1 hw => ?_)
          · refine lv_iload_n hx hb d_Pl_cutFrom_92 rfl (lv_at hl 1 rfl) ?_
            refine lv_aload_n hx hb d_Pl_cutFrom_93 rfl (lv_at hl 0 rfl) ?_
            refine va_get (D := (dC, dI)) (ci := 3) (v := .int (fi92_1 3)) (C := R_Pl) (T := T_Pl) (N := 11) hx hb ht in_Pl hown hK hP 4 rfl rfl 8 (by decide) (ht _ kw_63) (fun _ h9 => h9) rfl d_Pl_cutFrom_94 ?_
            refine lv_isub hx hb d_Pl_cutFrom_97 ?_
            exact W.iret (v := (v4 - (fi92_1 3))) hx hb hr (fun t ht hW => ⟨⟨(v4 - (fi92_1 3)), (fi92_1, fl, ai, al), rfl, ⟨rfl, rfl, rfl, hw⟩, by rw [ht]; exact hP, va_K.moved hW.alike hK, hD⟩, hS.F ht⟩) hS.2.2 d_Pl_cutFrom_98
          · refine lv_if_ne (tgt := 92) hx hb d_Pl_cutFrom_84 (by decide) (fun c84_1 => ?_) (fun c84_1 => ?_)
            · have hw := zw_ite_f c84_1 hw
              exact (hj92_1 fi_77_1 hw) H locs ls hP hD hS (lv_sub hl [0, 2] rfl)
            · have hw := zw_ite_t c84_1 hw
              refine lv_aload_n hx hb d_Pl_cutFrom_87 rfl (lv_at hl 0 rfl) ?_
              refine lv_iconst (v := (-1 : Int32)) hx hb d_Pl_cutFrom_88 (by decide) ?_
              refine va_put (D := (dC, dI)) (ci := 3) (v := .int (-1 : Int32)) (ty := .int) (C := R_Pl) (T := T_Pl) (N := 11) hx hb ht in_Pl t_Pl t_Pl_ok n_Pl hown hK hP hD hS 4 rfl rfl 10 (by decide) (ht _ kw_70) (fun _ h9 => h9) rfl (by decide +kernel) rfl rfl (Nat.le_of_ble_eq_true rfl) d_Pl_cutFrom_89 (fun H locs hP hD hS => ?_)
              have hP := cwpfi_5 hP
              have hD := cwdfi_5 hD
              obtain ⟨fi_89_1, efi_89_1⟩ : ∃ z, z = va_up fi_77_1 5 (-1 : Int32) := ⟨_, rfl⟩
              rw [← efi_89_1] at hP hD
              have hw := zw_nm_x efi_89_1 hw
              exact (hj92_1 fi_89_1 hw) H locs ls hP hD hS (lv_sub hl [0, 2] rfl)
        · refine lv_if_le (tgt := 75) hx hb d_Pl_cutFrom_44 (by decide) (fun c44_1 => ?_) (fun c44_1 => ?_)
          · have hw := zw_ite_t c44_1 hw
            exact (hj75_1  hw) H locs ls hP hD hS (lv_sub hl [0, 1, 2] rfl)
          · have hw := zw_ite_f c44_1 hw
            refine lv_aload_n hx hb d_Pl_cutFrom_47 rfl (lv_at hl 0 rfl) ?_
            refine va_get (D := (dC, dI)) (ci := 3) (v := .ref (a 11)) (C := R_Pl) (T := T_Pl) (N := 11) hx hb ht in_Pl hown hK hP 4 rfl rfl 6 (by decide) (ht _ kw_56) (fun _ h9 => h9) rfl d_Pl_cutFrom_48 ?_
            refine lv_aload_n hx hb d_Pl_cutFrom_51 rfl (lv_at hl 0 rfl) ?_
            refine va_get (D := (dC, dI)) (ci := 3) (v := .int (fi40_1 4)) (C := R_Pl) (T := T_Pl) (N := 11) hx hb ht in_Pl hown hK hP 4 rfl rfl 9 (by decide) (ht _ kw_68) (fun _ h9 => h9) rfl d_Pl_cutFrom_52 ?_
            refine lv_iconst (v := (1 : Int32)) hx hb d_Pl_cutFrom_55 (by decide) ?_
            refine lv_isub hx hb d_Pl_cutFrom_56 ?_
            obtain ⟨h57_1, hw⟩ := hw
            refine va_iald (f := ai 11) hx hb hK hP 11 0 rfl rfl h57_1 d_Pl_cutFrom_57 ?_
            refine lv_iload_n hx hb d_Pl_cutFrom_58 rfl (lv_at hl 1 rfl) ?_
            refine lv_icmp_lt (tgt := 75) hx hb d_Pl_cutFrom_59 (by decide) (fun c59_1 => ?_) (fun c59_1 => ?_)
            · have hw := zw_ite_t c59_1 hw
              exact (hj75_1  hw) H locs ls hP hD hS (lv_sub hl [0, 1, 2] rfl)
            · have hw := zw_ite_f c59_1 hw
              refine lv_aload_n hx hb d_Pl_cutFrom_62 rfl (lv_at hl 0 rfl) ?_
              refine lv_dup hx hb d_Pl_cutFrom_63 rfl ?_
              refine va_get (D := (dC, dI)) (ci := 3) (v := .int (fi40_1 4)) (C := R_Pl) (T := T_Pl) (N := 11) hx hb ht in_Pl hown hK hP 4 rfl rfl 9 (by decide) (ht _ kw_68) (fun _ h9 => h9) rfl d_Pl_cutFrom_64 ?_
              refine lv_iconst (v := (1 : Int32)) hx hb d_Pl_cutFrom_67 (by decide) ?_
              refine lv_isub hx hb d_Pl_cutFrom_68 ?_
              refine va_put (D := (dC, dI)) (ci := 3) (v := .int ((fi40_1 4) - (1 : Int32))) (ty := .int) (C := R_Pl) (T := T_Pl) (N := 11) hx hb ht in_Pl t_Pl t_Pl_ok n_Pl hown hK hP hD hS 4 rfl rfl 9 (by decide) (ht _ kw_68) (fun _ h9 => h9) rfl (by decide +kernel) rfl rfl (Nat.le_of_ble_eq_true rfl) d_Pl_cutFrom_69 (fun H locs hP hD hS => ?_)
              have hP := cwpfi_4 hP
              have hD := cwdfi_4 hD
              obtain ⟨fi_69_1, efi_69_1⟩ : ∃ z, z = va_up fi40_1 4 ((fi40_1 4) - (1 : Int32)) := ⟨_, rfl⟩
              rw [← efi_69_1] at hP hD
              have hw := zw_nm_x efi_69_1 hw
              refine lv_goto (tgt := 40) hx hb d_Pl_cutFrom_72 (by decide) ?_
              exact (ih40_1 fi_69_1 hw) H locs ls hP hD hS (lv_sub hl [0, 1, 2] rfl)
      · have hw := zw_ite_f c24 hw
        refine lv_aload_n hx hb d_Pl_cutFrom_27 rfl (lv_at hl 0 rfl) ?_
        refine lv_dup hx hb d_Pl_cutFrom_28 rfl ?_
        refine va_get (D := (dC, dI)) (ci := 3) (v := .int (fi5 3)) (C := R_Pl) (T := T_Pl) (N := 11) hx hb ht in_Pl hown hK hP 4 rfl rfl 8 (by decide) (ht _ kw_63) (fun _ h9 => h9) rfl d_Pl_cutFrom_29 ?_
        refine lv_iconst (v := (1 : Int32)) hx hb d_Pl_cutFrom_32 (by decide) ?_
        refine lv_isub hx hb d_Pl_cutFrom_33 ?_
        refine va_put (D := (dC, dI)) (ci := 3) (v := .int ((fi5 3) - (1 : Int32))) (ty := .int) (C := R_Pl) (T := T_Pl) (N := 11) hx hb ht in_Pl t_Pl t_Pl_ok n_Pl hown hK hP hD hS 4 rfl rfl 8 (by decide) (ht _ kw_63) (fun _ h9 => h9) rfl (by decide +kernel) rfl rfl (Nat.le_of_ble_eq_true rfl) d_Pl_cutFrom_34 (fun H locs hP hD hS => ?_)
        have hP := cwpfi_3 hP
        have hD := cwdfi_3 hD
        obtain ⟨fi_34, efi_34⟩ : ∃ z, z = va_up fi5 3 ((fi5 3) - (1 : Int32)) := ⟨_, rfl⟩
        rw [← efi_34] at hP hD
        have hw := zw_nm_x efi_34 hw
        refine lv_goto (tgt := 5) hx hb d_Pl_cutFrom_37 (by decide) ?_
        exact (ih5 fi_34 hw) H locs ls hP hD hS (lv_sub hl [0, 1, 2] rfl)
  rw [hH, hlo] at key
  exact key
