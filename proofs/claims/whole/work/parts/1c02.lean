def SS_stage_w (fi : Nat → Int32) (fl : Nat → Int64) (ai : Nat → Nat → Int32) (al : Nat → Nat → Int64) (p0 : Int32) (K : Int64 → (Nat → Int32) → (Nat → Nat → Int32) → Prop) : Prop :=
  Pl_takesStage_w fi fl ai al p0 (fun (r5 : Int32) =>
  if r5 = 0 then (
    K (-1000000000000000000 : Int64) fi ai)
  else (
    Pl_openStage_w fi fl ai al p0 (fun (r20 : Int32) (fi_20 : Nat → Int32) (ai_20 : Nat → Nat → Int32) =>
    K r20.toInt64 fi_20 ai_20)))
theorem d_SS_stage_0 : decode b_SS_stage 0 = .ok (.aload_n 0, 1) := by decide +kernel
theorem d_SS_stage_1 : decode b_SS_stage 1 = .ok (.getfield 19, 3) := by decide +kernel
theorem d_SS_stage_4 : decode b_SS_stage 4 = .ok (.iload_n 1, 1) := by decide +kernel
theorem d_SS_stage_5 : decode b_SS_stage 5 = .ok (.invokevirtual 125, 3) := by decide +kernel
theorem d_SS_stage_8 : decode b_SS_stage 8 = .ok (.ifCond .ne (7), 3) := by decide +kernel
theorem d_SS_stage_11 : decode b_SS_stage 11 = .ok (.ldc2_w 128, 3) := by decide +kernel
theorem d_SS_stage_14 : decode b_SS_stage 14 = .ok (.lreturn, 1) := by decide +kernel
theorem d_SS_stage_15 : decode b_SS_stage 15 = .ok (.aload_n 0, 1) := by decide +kernel
theorem d_SS_stage_16 : decode b_SS_stage 16 = .ok (.getfield 19, 3) := by decide +kernel
theorem d_SS_stage_19 : decode b_SS_stage 19 = .ok (.iload_n 1, 1) := by decide +kernel
theorem d_SS_stage_20 : decode b_SS_stage 20 = .ok (.invokevirtual 130, 3) := by decide +kernel
theorem d_SS_stage_23 : decode b_SS_stage 23 = .ok (.i2l, 1) := by decide +kernel
theorem d_SS_stage_24 : decode b_SS_stage 24 = .ok (.lreturn, 1) := by decide +kernel
set_option maxHeartbeats 4000000 in
set_option maxRecDepth 100000 in
theorem c_SS_stage (l : Launch) (dC : Nat → ClassId) (dI : Nat → Nat → Nat) (cI cJ cG cZ : ClassId) (a : Nat → Nat) (sz : Nat) (fi : Nat → Int32) (fl : Nat → Int64) (ai : Nat → Nat → Int32) (al : Nat → Nat → Int64) (p0 : Int32) (K : Int64 → (Nat → Int32) → (Nat → Nat → Int32) → Prop) (hw : SS_stage_w fi fl ai al p0 K) : Met l y_SS_stage ws_SS_stage ({ frames := 3, cells := 0, slots := 0, locals := 61 }) (va_Pc [.ref (a 0), .int p0] (zw_Bw (dC, dI) vwCl [(cI, .int), (cJ, .long), (cG, .array .int), (cZ, .boolean)] (cw cI cJ cG cZ a fi fl ai al) sz)) (va_Ql (fun r (u : zw_Z) => (zw_k_fi_air fl al K) r u.1 u.2.1 u.2.2.1 u.2.2.2) (fun u t => zw_E (dC, dI) vwCl [(cI, .int), (cJ, .long), (cG, .array .int), (cZ, .boolean)] (va_A (cw cI cJ cG cZ a fi fl ai al) sz) (cw cI cJ cG cZ a u.1 u.2.1 u.2.2.1 u.2.2.2) t) (va_A (cw cI cJ cG cZ a fi fl ai al) sz)) 0 0 (va_A (cw cI cJ cG cZ a fi fl ai al) sz) := by
  refine Met.ofW (cc := b_SS_stage) (maxL := 2) (ret := (Option.some FieldType.long)) (by decide) rfl ?_
  intro p e s m args below meth c s₁ B hml hv
  obtain ⟨rfl, hsz, hP, hK, hD0, hN⟩ := hv
  have hx := B.exec
  have hb := B.bytes
  have hr := B.returns
  have hts := atoms_spec (ws := ws_SS_stage) B.pre
  have ht : ∀ w ∈ zw_tbl, w.before _ s = true := fun w h => hts w (List.mem_cons_of_mem _ h)
  have hown : s.vm.findClass R_SS = some m.cls := findClass_of_methodNamed B.named
  have hlocks := B.notSynchronized
  subst hsz
  have hD := hD0.self (sz := s.heap.size)
  generalize hAe : va_A (cw cI cJ cG cZ a fi fl ai al) s.heap.size = A at hD ⊢
  have hA : ∀ q : Nat, s.heap.size ≤ q → A q := fun q h => by rw [← hAe]; exact Or.inr h
  have hS : va_S A s.heap s.heap [] := va_S.rf
  have hl := lv_entry ([.ref (a 0), .int p0] : List Value) (n := 2) (Nat.le_of_ble_eq_true rfl)
  rw [lg_entry_eq]
  generalize (lg_sl ([.ref (a 0), .int p0] : List Value) ++ List.replicate (2 - (lg_sl ([.ref (a 0), .int p0] : List Value)).length) Slot.unset).toArray = ls at hl ⊢
  have hl : lv_has ls 2 [(0, .ref (a 0)), (1, .int p0)] := hl
  unfold SS_stage_w at hw
  obtain ⟨H, hH⟩ : ∃ H, H = s.heap := ⟨_, rfl⟩
  obtain ⟨locs, hlo⟩ : ∃ q : List Loc, q = [] := ⟨_, rfl⟩
  have hP : va_P (dC, dI) vwCl (cw cI cJ cG cZ a fi fl ai al) H := by rw [hH]; exact hP
  have hS : va_S A s.heap H locs := by rw [hH, hlo]; exact hS
  have key : W p l e (headSpec ws_SS_stage ({ frames := 3, cells := 0, slots := 0, locals := 61 })).room s m ([.ref (a 0), .int p0] : List Value).toArray below meth c H locs 0 0 (MQ below (va_Ql (fun r (u : zw_Z) => (zw_k_fi_air fl al K) r u.1 u.2.1 u.2.2.1 u.2.2.2) (fun u t => zw_E (dC, dI) vwCl [(cI, .int), (cJ, .long), (cG, .array .int), (cZ, .boolean)] A (cw cI cJ cG cZ a u.1 u.2.1 u.2.2.1 u.2.2.2) t) A) ([.ref (a 0), .int p0] : List Value).toArray s 0 0 A) (F0 m 0 ls []) := by
    refine lv_aload_n hx hb d_SS_stage_0 rfl (lv_at hl 0 rfl) ?_
    refine va_get (D := (dC, dI)) (ci := 0) (v := .ref (a 4)) (C := R_SS) (T := T_SS) (N := 9) hx hb ht in_SS hown hK hP 0 rfl rfl 2 (by decide) (ht _ kw_244) (fun _ h9 => h9) rfl d_SS_stage_1 ?_
    refine lv_iload_n hx hb d_SS_stage_4 rfl (lv_at hl 1 rfl) ?_
    refine vp_callSi (va_Run.run (va_runV (As := [.int p0]) (rest := []) ⟨hx, hb, hml, hown, hts⟩ (c_Pl_takesStage l dC dI cI cJ cG cZ a fi fl ai al p0 _ hw) (cwV 1 hts (zw_goodV kw_335 kw_336 kw_337 kw_3 kw_338) rfl rfl rfl hd_Pl_takesStage ⟨Nat.le_of_ble_eq_true rfl, Nat.le_of_ble_eq_true rfl⟩) (zw_preV (ci := 3) (q0 := 4) hK hN hP rfl rfl) rfl rfl hl.1 rfl (lv_room (Nat.le_of_ble_eq_true rfl)) d_SS_stage_5 ⟨Nat.le_of_ble_eq_true rfl, Nat.le_of_ble_eq_true rfl⟩)) (fun r5 hw => ?_)
    refine lv_if_ne (tgt := 15) hx hb d_SS_stage_8 (by decide) (fun c8 => ?_) (fun c8 => ?_)
    · have hw := zw_ite_f c8 hw
      refine lv_aload_n hx hb d_SS_stage_15 rfl (lv_at hl 0 rfl) ?_
      refine va_get (D := (dC, dI)) (ci := 0) (v := .ref (a 4)) (C := R_SS) (T := T_SS) (N := 9) hx hb ht in_SS hown hK hP 0 rfl rfl 2 (by decide) (ht _ kw_244) (fun _ h9 => h9) rfl d_SS_stage_16 ?_
      refine lv_iload_n hx hb d_SS_stage_19 rfl (lv_at hl 1 rfl) ?_
      refine zw_ci (va_runV (As := [.int p0]) (rest := []) ⟨hx, hb, hml, hown, hts⟩ (c_Pl_openStage l dC dI cI cJ cG cZ a H.size fi fl ai al p0 _ hw) (cwV 1 hts (zw_goodV kw_345 kw_346 kw_347 kw_3 kw_348) rfl rfl rfl hd_Pl_openStage ⟨Nat.le_of_ble_eq_true rfl, Nat.le_of_ble_eq_true rfl⟩) (zw_preVw (ci := 3) (q0 := 4) hK hN hP hD rfl rfl) rfl rfl hl.1 rfl (lv_room (Nat.le_of_ble_eq_true rfl)) d_SS_stage_20 ⟨Nat.le_of_ble_eq_true rfl, Nat.le_of_ble_eq_true rfl⟩) hD hS hA (fun r20 fi_20 fl_20 ai_20 al_20 H locs hw hP hD hS => ?_)
      obtain ⟨rfl, rfl, hw⟩ := hw
      refine lv_i2l hx hb d_SS_stage_23 rfl ?_
      exact W.lret (v := r20.toInt64) hx hb hr (fun t ht hW => ⟨⟨r20.toInt64, (fi_20, fl, ai_20, al), rfl, ⟨rfl, rfl, hw⟩, by rw [ht]; exact hP, va_K.moved hW.alike hK, hD⟩, hS.F ht⟩) hS.2.2 d_SS_stage_24
    · have hw := zw_ite_t c8 hw
      refine lv_ldc2 (v := (-1000000000000000000 : Int64)) hx hb hown (hts (.constantLong R_SS 128 (-1000000000000000000 : Int64)) (by decide +kernel)) d_SS_stage_11 ?_
      exact W.lret (v := (-1000000000000000000 : Int64)) hx hb hr (fun t ht hW => ⟨⟨(-1000000000000000000 : Int64), (fi, fl, ai, al), rfl, ⟨rfl, rfl, hw⟩, by rw [ht]; exact hP, va_K.moved hW.alike hK, hD⟩, hS.F ht⟩) hS.2.2 d_SS_stage_14
  rw [hH, hlo] at key
  exact key
def Pl_hasRoom_w (fi : Nat → Int32) (fl : Nat → Int64) (ai : Nat → Nat → Int32) (al : Nat → Nat → Int64) (K : Int32 → Prop) : Prop :=
  if (fi 2) ≤ 0 then (
    K (0 : Int32))
  else (
    if (40 : Int32) ≤ (fi 3) then (
      K (0 : Int32))
    else (
      K (1 : Int32)))
theorem d_Pl_hasRoom_0 : decode b_Pl_hasRoom 0 = .ok (.aload_n 0, 1) := by decide +kernel
theorem d_Pl_hasRoom_1 : decode b_Pl_hasRoom 1 = .ok (.getfield 37, 3) := by decide +kernel
theorem d_Pl_hasRoom_4 : decode b_Pl_hasRoom 4 = .ok (.ifCond .le (16), 3) := by decide +kernel
theorem d_Pl_hasRoom_7 : decode b_Pl_hasRoom 7 = .ok (.aload_n 0, 1) := by decide +kernel
theorem d_Pl_hasRoom_8 : decode b_Pl_hasRoom 8 = .ok (.getfield 44, 3) := by decide +kernel
theorem d_Pl_hasRoom_11 : decode b_Pl_hasRoom 11 = .ok (.bipush (40), 2) := by decide +kernel
theorem d_Pl_hasRoom_13 : decode b_Pl_hasRoom 13 = .ok (.if_icmp .ge (7), 3) := by decide +kernel
theorem d_Pl_hasRoom_16 : decode b_Pl_hasRoom 16 = .ok (.iconst 1, 1) := by decide +kernel
theorem d_Pl_hasRoom_17 : decode b_Pl_hasRoom 17 = .ok (.goto (4), 3) := by decide +kernel
theorem d_Pl_hasRoom_20 : decode b_Pl_hasRoom 20 = .ok (.iconst 0, 1) := by decide +kernel
theorem d_Pl_hasRoom_21 : decode b_Pl_hasRoom 21 = .ok (.ireturn, 1) := by decide +kernel
set_option maxHeartbeats 4000000 in
set_option maxRecDepth 100000 in
theorem c_Pl_hasRoom (l : Launch) (dC : Nat → ClassId) (dI : Nat → Nat → Nat) (cI cJ cG cZ : ClassId) (a : Nat → Nat) (fi : Nat → Int32) (fl : Nat → Int64) (ai : Nat → Nat → Int32) (al : Nat → Nat → Int64) (K : Int32 → Prop) (hw : Pl_hasRoom_w fi fl ai al K) : Met l y_Pl_hasRoom ws_Pl_hasRoom ({ frames := 0, cells := 0, slots := 0, locals := 0 }) (va_Pc [.ref (a 4)] (zw_B (dC, dI) vwCl [(cI, .int), (cJ, .long), (cG, .array .int), (cZ, .boolean)] (cw cI cJ cG cZ a fi fl ai al))) (vp_Si K) 0 0 (fun _ => False) := by
  refine Met.ofW (cc := b_Pl_hasRoom) (maxL := 1) (ret := (Option.some FieldType.boolean)) (by decide) rfl ?_
  intro p e s m args below meth c s₁ B hml hv
  obtain ⟨rfl, hP, hK, hN⟩ := hv
  have hx := B.exec
  have hb := B.bytes
  have hr := B.returns
  have hts := atoms_spec (ws := ws_Pl_hasRoom) B.pre
  have ht : ∀ w ∈ zw_tbl, w.before _ s = true := fun w h => hts w (List.mem_cons_of_mem _ h)
  have hown : s.vm.findClass R_Pl = some m.cls := findClass_of_methodNamed B.named
  have hlocks := B.notSynchronized
  have hl := lv_entry ([.ref (a 4)] : List Value) (n := 1) (Nat.le_of_ble_eq_true rfl)
  rw [lg_entry_eq]
  generalize (lg_sl ([.ref (a 4)] : List Value) ++ List.replicate (1 - (lg_sl ([.ref (a 4)] : List Value)).length) Slot.unset).toArray = ls at hl ⊢
  have hl : lv_has ls 1 [(0, .ref (a 4))] := hl
  unfold Pl_hasRoom_w at hw
  refine lv_aload_n hx hb d_Pl_hasRoom_0 rfl (lv_at hl 0 rfl) ?_
  refine va_get (D := (dC, dI)) (ci := 3) (v := .int (fi 2)) (C := R_Pl) (T := T_Pl) (N := 11) hx hb ht in_Pl hown hK hP 4 rfl rfl 7 (by decide) (ht _ kw_59) (fun _ h9 => h9) rfl d_Pl_hasRoom_1 ?_
  refine lv_if_le (tgt := 20) hx hb d_Pl_hasRoom_4 (by decide) (fun c4 => ?_) (fun c4 => ?_)
  · have hw := zw_ite_t c4 hw
    refine lv_iconst (v := (0 : Int32)) hx hb d_Pl_hasRoom_20 (by decide) ?_
    exact W.zret (v := (0 : Int32)) (ty := .boolean) hx hb hr rfl (fun t ht hW => ⟨(0 : Int32), rfl, hw, ht⟩) t_nil d_Pl_hasRoom_21
  · have hw := zw_ite_f c4 hw
    refine lv_aload_n hx hb d_Pl_hasRoom_7 rfl (lv_at hl 0 rfl) ?_
    refine va_get (D := (dC, dI)) (ci := 3) (v := .int (fi 3)) (C := R_Pl) (T := T_Pl) (N := 11) hx hb ht in_Pl hown hK hP 4 rfl rfl 8 (by decide) (ht _ kw_63) (fun _ h9 => h9) rfl d_Pl_hasRoom_8 ?_
    refine lv_bipush (v := (40 : Int32)) hx hb d_Pl_hasRoom_11 (by decide) ?_
    refine lv_icmp_ge (tgt := 20) hx hb d_Pl_hasRoom_13 (by decide) (fun c13 => ?_) (fun c13 => ?_)
    · have hw := zw_ite_t c13 hw
      refine lv_iconst (v := (0 : Int32)) hx hb d_Pl_hasRoom_20 (by decide) ?_
      exact W.zret (v := (0 : Int32)) (ty := .boolean) hx hb hr rfl (fun t ht hW => ⟨(0 : Int32), rfl, hw, ht⟩) t_nil d_Pl_hasRoom_21
    · have hw := zw_ite_f c13 hw
      refine lv_iconst (v := (1 : Int32)) hx hb d_Pl_hasRoom_16 (by decide) ?_
      refine lv_goto (tgt := 21) hx hb d_Pl_hasRoom_17 (by decide) ?_
      exact W.zret (v := (1 : Int32)) (ty := .boolean) hx hb hr rfl (fun t ht hW => ⟨(1 : Int32), rfl, hw, ht⟩) t_nil d_Pl_hasRoom_21
def Pl_takesPart_w (fi : Nat → Int32) (fl : Nat → Int64) (ai : Nat → Nat → Int32) (al : Nat → Nat → Int64) (p0 : Int32) (K : Int32 → Prop) : Prop :=
  Pl_hasRoom_w fi fl ai al  (fun (r1 : Int32) =>
  if r1 = 0 then (
    K (0 : Int32))
  else (
    if (6 : Int32) ≤ (fi 4) then (
      K (0 : Int32))
    else (
      Pl_placeOf_w fi fl ai al p0 (fun (r18 : Int32) =>
      if 0 ≤ r18 then (
        K (0 : Int32))
      else (
        K (1 : Int32))))))
theorem d_Pl_takesPart_0 : decode b_Pl_takesPart 0 = .ok (.aload_n 0, 1) := by decide +kernel
theorem d_Pl_takesPart_1 : decode b_Pl_takesPart 1 = .ok (.invokevirtual 60, 3) := by decide +kernel
theorem d_Pl_takesPart_4 : decode b_Pl_takesPart 4 = .ok (.ifCond .eq (24), 3) := by decide +kernel
theorem d_Pl_takesPart_7 : decode b_Pl_takesPart 7 = .ok (.aload_n 0, 1) := by decide +kernel
theorem d_Pl_takesPart_8 : decode b_Pl_takesPart 8 = .ok (.getfield 64, 3) := by decide +kernel
theorem d_Pl_takesPart_11 : decode b_Pl_takesPart 11 = .ok (.bipush (6), 2) := by decide +kernel
theorem d_Pl_takesPart_13 : decode b_Pl_takesPart 13 = .ok (.if_icmp .ge (15), 3) := by decide +kernel
theorem d_Pl_takesPart_16 : decode b_Pl_takesPart 16 = .ok (.aload_n 0, 1) := by decide +kernel
theorem d_Pl_takesPart_17 : decode b_Pl_takesPart 17 = .ok (.iload_n 1, 1) := by decide +kernel
theorem d_Pl_takesPart_18 : decode b_Pl_takesPart 18 = .ok (.invokevirtual 67, 3) := by decide +kernel
theorem d_Pl_takesPart_21 : decode b_Pl_takesPart 21 = .ok (.ifCond .ge (7), 3) := by decide +kernel
theorem d_Pl_takesPart_24 : decode b_Pl_takesPart 24 = .ok (.iconst 1, 1) := by decide +kernel
theorem d_Pl_takesPart_25 : decode b_Pl_takesPart 25 = .ok (.goto (4), 3) := by decide +kernel
theorem d_Pl_takesPart_28 : decode b_Pl_takesPart 28 = .ok (.iconst 0, 1) := by decide +kernel
theorem d_Pl_takesPart_29 : decode b_Pl_takesPart 29 = .ok (.ireturn, 1) := by decide +kernel
set_option maxHeartbeats 4000000 in
set_option maxRecDepth 100000 in
theorem c_Pl_takesPart (l : Launch) (dC : Nat → ClassId) (dI : Nat → Nat → Nat) (cI cJ cG cZ : ClassId) (a : Nat → Nat) (fi : Nat → Int32) (fl : Nat → Int64) (ai : Nat → Nat → Int32) (al : Nat → Nat → Int64) (p0 : Int32) (K : Int32 → Prop) (hw : Pl_takesPart_w fi fl ai al p0 K) : Met l y_Pl_takesPart ws_Pl_takesPart ({ frames := 1, cells := 0, slots := 0, locals := 22 }) (va_Pc [.ref (a 4), .int p0] (zw_B (dC, dI) vwCl [(cI, .int), (cJ, .long), (cG, .array .int), (cZ, .boolean)] (cw cI cJ cG cZ a fi fl ai al))) (vp_Si K) 0 0 (fun _ => False) := by
  refine Met.ofW (cc := b_Pl_takesPart) (maxL := 2) (ret := (Option.some FieldType.boolean)) (by decide) rfl ?_
  intro p e s m args below meth c s₁ B hml hv
  obtain ⟨rfl, hP, hK, hN⟩ := hv
  have hx := B.exec
  have hb := B.bytes
  have hr := B.returns
  have hts := atoms_spec (ws := ws_Pl_takesPart) B.pre
  have ht : ∀ w ∈ zw_tbl, w.before _ s = true := fun w h => hts w (List.mem_cons_of_mem _ h)
  have hown : s.vm.findClass R_Pl = some m.cls := findClass_of_methodNamed B.named
  have hlocks := B.notSynchronized
  have hl := lv_entry ([.ref (a 4), .int p0] : List Value) (n := 2) (Nat.le_of_ble_eq_true rfl)
  rw [lg_entry_eq]
  generalize (lg_sl ([.ref (a 4), .int p0] : List Value) ++ List.replicate (2 - (lg_sl ([.ref (a 4), .int p0] : List Value)).length) Slot.unset).toArray = ls at hl ⊢
  have hl : lv_has ls 2 [(0, .ref (a 4)), (1, .int p0)] := hl
  unfold Pl_takesPart_w at hw
  refine lv_aload_n hx hb d_Pl_takesPart_0 rfl (lv_at hl 0 rfl) ?_
  refine vp_callSi (va_Run.run (va_runV (As := []) (rest := []) ⟨hx, hb, hml, hown, hts⟩ (c_Pl_hasRoom l dC dI cI cJ cG cZ a fi fl ai al _ hw) (cwV 0 hts (zw_goodV kw_361 kw_362 kw_363 kw_3 kw_364) rfl rfl rfl hd_Pl_hasRoom ⟨Nat.le_of_ble_eq_true rfl, Nat.le_of_ble_eq_true rfl⟩) (zw_preV (ci := 3) (q0 := 4) hK hN hP rfl rfl) rfl rfl hl.1 rfl (lv_room (Nat.le_of_ble_eq_true rfl)) d_Pl_takesPart_1 ⟨Nat.le_of_ble_eq_true rfl, Nat.le_of_ble_eq_true rfl⟩)) (fun r1 hw => ?_)
  refine lv_if_eq (tgt := 28) hx hb d_Pl_takesPart_4 (by decide) (fun c4 => ?_) (fun c4 => ?_)
  · have hw := zw_ite_t c4 hw
    refine lv_iconst (v := (0 : Int32)) hx hb d_Pl_takesPart_28 (by decide) ?_
    exact W.zret (v := (0 : Int32)) (ty := .boolean) hx hb hr rfl (fun t ht hW => ⟨(0 : Int32), rfl, hw, ht⟩) t_nil d_Pl_takesPart_29
  · have hw := zw_ite_f c4 hw
    refine lv_aload_n hx hb d_Pl_takesPart_7 rfl (lv_at hl 0 rfl) ?_
    refine va_get (D := (dC, dI)) (ci := 3) (v := .int (fi 4)) (C := R_Pl) (T := T_Pl) (N := 11) hx hb ht in_Pl hown hK hP 4 rfl rfl 9 (by decide) (ht _ kw_68) (fun _ h9 => h9) rfl d_Pl_takesPart_8 ?_
    refine lv_bipush (v := (6 : Int32)) hx hb d_Pl_takesPart_11 (by decide) ?_
    refine lv_icmp_ge (tgt := 28) hx hb d_Pl_takesPart_13 (by decide) (fun c13 => ?_) (fun c13 => ?_)
    · have hw := zw_ite_t c13 hw
      refine lv_iconst (v := (0 : Int32)) hx hb d_Pl_takesPart_28 (by decide) ?_
      exact W.zret (v := (0 : Int32)) (ty := .boolean) hx hb hr rfl (fun t ht hW => ⟨(0 : Int32), rfl, hw, ht⟩) t_nil d_Pl_takesPart_29
    · have hw := zw_ite_f c13 hw
      refine lv_aload_n hx hb d_Pl_takesPart_16 rfl (lv_at hl 0 rfl) ?_
      refine lv_iload_n hx hb d_Pl_takesPart_17 rfl (lv_at hl 1 rfl) ?_
      refine vp_callSi (va_Run.run (va_runV (As := [.int p0]) (rest := []) ⟨hx, hb, hml, hown, hts⟩ (c_Pl_placeOf l dC dI cI cJ cG cZ a fi fl ai al p0 _ hw) (cwV 1 hts (zw_goodV kw_365 kw_323 kw_324 kw_3 kw_325) rfl rfl rfl hd_Pl_placeOf ⟨Nat.le_of_ble_eq_true rfl, Nat.le_of_ble_eq_true rfl⟩) (zw_preV (ci := 3) (q0 := 4) hK hN hP rfl rfl) rfl rfl hl.1 rfl (lv_room (Nat.le_of_ble_eq_true rfl)) d_Pl_takesPart_18 ⟨Nat.le_of_ble_eq_true rfl, Nat.le_of_ble_eq_true rfl⟩)) (fun r18 hw => ?_)
      refine lv_if_ge (tgt := 28) hx hb d_Pl_takesPart_21 (by decide) (fun c21 => ?_) (fun c21 => ?_)
      · have hw := zw_ite_t c21 hw
        refine lv_iconst (v := (0 : Int32)) hx hb d_Pl_takesPart_28 (by decide) ?_
        exact W.zret (v := (0 : Int32)) (ty := .boolean) hx hb hr rfl (fun t ht hW => ⟨(0 : Int32), rfl, hw, ht⟩) t_nil d_Pl_takesPart_29
      · have hw := zw_ite_f c21 hw
        refine lv_iconst (v := (1 : Int32)) hx hb d_Pl_takesPart_24 (by decide) ?_
        refine lv_goto (tgt := 29) hx hb d_Pl_takesPart_25 (by decide) ?_
        exact W.zret (v := (1 : Int32)) (ty := .boolean) hx hb hr rfl (fun t ht hW => ⟨(1 : Int32), rfl, hw, ht⟩) t_nil d_Pl_takesPart_29
def Pl_partBits_w (fi : Nat → Int32) (fl : Nat → Int64) (ai : Nat → Nat → Int32) (al : Nat → Nat → Int64) (K : Int32 → Prop) : Prop :=
  zw_nm (0 : Int32) (fun (v1 : Int32) =>
  zw_nm (0 : Int32) (fun (v3 : Int32) =>
  zw_lp2 (fun L4 (x4_1 : Int32) (x4_2 : Int32) =>
  if (fi 4) ≤ x4_2 then (
    K x4_1)
  else (
    vp_in x4_2 6 ∧ (
    zw_nm (x4_1 ||| ((1 : Int32) <<< ((ai 10 x4_2.toNatClampNeg) &&& 31))) (fun (v22 : Int32) =>
    zw_nm (x4_2 + (1 : Int32)) (fun (v23 : Int32) =>
    L4 v22 v23))))) v1 v3))
theorem d_Pl_partBits_0 : decode b_Pl_partBits 0 = .ok (.iconst 0, 1) := by decide +kernel
theorem d_Pl_partBits_1 : decode b_Pl_partBits 1 = .ok (.istore_n 1, 1) := by decide +kernel
theorem d_Pl_partBits_2 : decode b_Pl_partBits 2 = .ok (.iconst 0, 1) := by decide +kernel
theorem d_Pl_partBits_3 : decode b_Pl_partBits 3 = .ok (.istore_n 2, 1) := by decide +kernel
theorem d_Pl_partBits_4 : decode b_Pl_partBits 4 = .ok (.iload_n 2, 1) := by decide +kernel
theorem d_Pl_partBits_5 : decode b_Pl_partBits 5 = .ok (.aload_n 0, 1) := by decide +kernel
theorem d_Pl_partBits_6 : decode b_Pl_partBits 6 = .ok (.getfield 64, 3) := by decide +kernel
theorem d_Pl_partBits_9 : decode b_Pl_partBits 9 = .ok (.if_icmp .ge (20), 3) := by decide +kernel
theorem d_Pl_partBits_12 : decode b_Pl_partBits 12 = .ok (.iload_n 1, 1) := by decide +kernel
theorem d_Pl_partBits_13 : decode b_Pl_partBits 13 = .ok (.iconst 1, 1) := by decide +kernel
theorem d_Pl_partBits_14 : decode b_Pl_partBits 14 = .ok (.aload_n 0, 1) := by decide +kernel
theorem d_Pl_partBits_15 : decode b_Pl_partBits 15 = .ok (.getfield 27, 3) := by decide +kernel
theorem d_Pl_partBits_18 : decode b_Pl_partBits 18 = .ok (.iload_n 2, 1) := by decide +kernel
theorem d_Pl_partBits_19 : decode b_Pl_partBits 19 = .ok (.iaload, 1) := by decide +kernel
theorem d_Pl_partBits_20 : decode b_Pl_partBits 20 = .ok (.ishl, 1) := by decide +kernel
theorem d_Pl_partBits_21 : decode b_Pl_partBits 21 = .ok (.ior, 1) := by decide +kernel
theorem d_Pl_partBits_22 : decode b_Pl_partBits 22 = .ok (.istore_n 1, 1) := by decide +kernel
theorem d_Pl_partBits_23 : decode b_Pl_partBits 23 = .ok (.iinc 2 (1), 3) := by decide +kernel
theorem d_Pl_partBits_26 : decode b_Pl_partBits 26 = .ok (.goto (-22), 3) := by decide +kernel
theorem d_Pl_partBits_29 : decode b_Pl_partBits 29 = .ok (.iload_n 1, 1) := by decide +kernel
theorem d_Pl_partBits_30 : decode b_Pl_partBits 30 = .ok (.ireturn, 1) := by decide +kernel
set_option maxHeartbeats 4000000 in
set_option maxRecDepth 100000 in
theorem c_Pl_partBits (l : Launch) (dC : Nat → ClassId) (dI : Nat → Nat → Nat) (cI cJ cG cZ : ClassId) (a : Nat → Nat) (fi : Nat → Int32) (fl : Nat → Int64) (ai : Nat → Nat → Int32) (al : Nat → Nat → Int64) (K : Int32 → Prop) (hw : Pl_partBits_w fi fl ai al K) : Met l y_Pl_partBits ws_Pl_partBits ({ frames := 0, cells := 0, slots := 0, locals := 0 }) (va_Pc [.ref (a 4)] (zw_B (dC, dI) vwCl [(cI, .int), (cJ, .long), (cG, .array .int), (cZ, .boolean)] (cw cI cJ cG cZ a fi fl ai al))) (vp_Si K) 0 0 (fun _ => False) := by
  refine Met.ofW (cc := b_Pl_partBits) (maxL := 3) (ret := (Option.some FieldType.int)) (by decide) rfl ?_
  intro p e s m args below meth c s₁ B hml hv
  obtain ⟨rfl, hP, hK, hN⟩ := hv
  have hx := B.exec
  have hb := B.bytes
  have hr := B.returns
  have hts := atoms_spec (ws := ws_Pl_partBits) B.pre
  have ht : ∀ w ∈ zw_tbl, w.before _ s = true := fun w h => hts w (List.mem_cons_of_mem _ h)
  have hown : s.vm.findClass R_Pl = some m.cls := findClass_of_methodNamed B.named
  have hlocks := B.notSynchronized
  have hl := lv_entry ([.ref (a 4)] : List Value) (n := 3) (Nat.le_of_ble_eq_true rfl)
  rw [lg_entry_eq]
  generalize (lg_sl ([.ref (a 4)] : List Value) ++ List.replicate (3 - (lg_sl ([.ref (a 4)] : List Value)).length) Slot.unset).toArray = ls at hl ⊢
  have hl : lv_has ls 3 [(0, .ref (a 4))] := hl
  unfold Pl_partBits_w at hw
  refine lv_iconst (v := (0 : Int32)) hx hb d_Pl_partBits_0 (by decide) ?_
  refine lv_topi (fun v1 ev1 => ?_)
  have hw := zw_nm_x ev1 hw
  refine lv_istore_n (lv' := [(1, .int v1), (0, .ref (a 4))]) hx hb d_Pl_partBits_1 rfl hl (by decide) rfl (fun ls hl => ?_)
  refine lv_iconst (v := (0 : Int32)) hx hb d_Pl_partBits_2 (by decide) ?_
  refine lv_topi (fun v3 ev3 => ?_)
  have hw := zw_nm_x ev3 hw
  refine lv_istore_n (lv' := [(2, .int v3), (1, .int v1), (0, .ref (a 4))]) hx hb d_Pl_partBits_3 rfl hl (by decide) rfl (fun ls hl => ?_)
  refine (zw_lp2_i (P := fun (x4_1 : Int32) (x4_2 : Int32) => ∀ (ls : Array Slot), lv_has ls 3 [(0, .ref (a 4)), (1, .int x4_1), (2, .int x4_2)] → W p l e (headSpec ws_Pl_partBits ({ frames := 0, cells := 0, slots := 0, locals := 0 })).room s m ([.ref (a 4)] : List Value).toArray below meth c s.heap [] 0 0 (MQ below (vp_Si K) ([.ref (a 4)] : List Value).toArray s 0 0 (fun _ => False)) (F0 m 4 ls [])) hw (fun L4 x4_1 x4_2 ih4 hw ls hl => ?_)) ls (lv_sub hl [2, 1, 0] rfl)
  refine lv_iload_n hx hb d_Pl_partBits_4 rfl (lv_at hl 2 rfl) ?_
  refine lv_aload_n hx hb d_Pl_partBits_5 rfl (lv_at hl 0 rfl) ?_
  refine va_get (D := (dC, dI)) (ci := 3) (v := .int (fi 4)) (C := R_Pl) (T := T_Pl) (N := 11) hx hb ht in_Pl hown hK hP 4 rfl rfl 9 (by decide) (ht _ kw_68) (fun _ h9 => h9) rfl d_Pl_partBits_6 ?_
  refine lv_icmp_ge (tgt := 29) hx hb d_Pl_partBits_9 (by decide) (fun c9 => ?_) (fun c9 => ?_)
  · have hw := zw_ite_t c9 hw
    refine lv_iload_n hx hb d_Pl_partBits_29 rfl (lv_at hl 1 rfl) ?_
    exact W.iret (v := x4_1) hx hb hr (fun t ht hW => ⟨x4_1, rfl, hw, ht⟩) t_nil d_Pl_partBits_30
  · have hw := zw_ite_f c9 hw
    refine lv_iload_n hx hb d_Pl_partBits_12 rfl (lv_at hl 1 rfl) ?_
    refine lv_iconst (v := (1 : Int32)) hx hb d_Pl_partBits_13 (by decide) ?_
    refine lv_aload_n hx hb d_Pl_partBits_14 rfl (lv_at hl 0 rfl) ?_
    refine va_get (D := (dC, dI)) (ci := 3) (v := .ref (a 10)) (C := R_Pl) (T := T_Pl) (N := 11) hx hb ht in_Pl hown hK hP 4 rfl rfl 5 (by decide) (ht _ kw_54) (fun _ h9 => h9) rfl d_Pl_partBits_15 ?_
    refine lv_iload_n hx hb d_Pl_partBits_18 rfl (lv_at hl 2 rfl) ?_
    obtain ⟨h19, hw⟩ := hw
    refine va_iald (f := ai 10) hx hb hK hP 10 0 rfl rfl h19 d_Pl_partBits_19 ?_
    refine lv_ishl hx hb d_Pl_partBits_20 ?_
    refine lv_ior hx hb d_Pl_partBits_21 ?_
    refine lv_topi (fun v22 ev22 => ?_)
    have hw := zw_nm_x ev22 hw
    refine lv_istore_n (lv' := [(1, .int v22), (0, .ref (a 4)), (2, .int x4_2)]) hx hb d_Pl_partBits_22 rfl hl (by decide) rfl (fun ls hl => ?_)
    obtain ⟨v23, ev23⟩ : ∃ y : Int32, y = x4_2 + (1 : Int32) := ⟨_, rfl⟩
    refine lv_iinc (v := v23) (lv' := [(2, .int v23), (1, .int v22), (0, .ref (a 4))]) hx hb d_Pl_partBits_23 hl (k := 2) rfl (by rw [ev23]; rfl) (by decide) rfl (fun ls hl => ?_)
    have hw := zw_nm_x ev23 hw
    refine lv_goto (tgt := 4) hx hb d_Pl_partBits_26 (by decide) ?_
    exact (ih4 v22 v23 hw) ls (lv_sub hl [2, 1, 0] rfl)
def Gi_mayFollow_w (fi : Nat → Int32) (fl : Nat → Int64) (ai : Nat → Nat → Int32) (al : Nat → Nat → Int64) (p0 : Int32) (p1 : Int32) (K : Int32 → Prop) : Prop :=
  vp_in p0 6 ∧ (
  if ((ai 39 p0.toNatClampNeg) &&& (p1 ^^^ (-1 : Int32))) = 0 then (
    K (1 : Int32))
  else (
    K (0 : Int32)))
theorem d_Gi_mayFollow_0 : decode b_Gi_mayFollow 0 = .ok (.aload_n 0, 1) := by decide +kernel
theorem d_Gi_mayFollow_1 : decode b_Gi_mayFollow 1 = .ok (.getfield 29, 3) := by decide +kernel
theorem d_Gi_mayFollow_4 : decode b_Gi_mayFollow 4 = .ok (.iload_n 1, 1) := by decide +kernel
theorem d_Gi_mayFollow_5 : decode b_Gi_mayFollow 5 = .ok (.iaload, 1) := by decide +kernel
theorem d_Gi_mayFollow_6 : decode b_Gi_mayFollow 6 = .ok (.iload_n 2, 1) := by decide +kernel
theorem d_Gi_mayFollow_7 : decode b_Gi_mayFollow 7 = .ok (.iconst (-1), 1) := by decide +kernel
theorem d_Gi_mayFollow_8 : decode b_Gi_mayFollow 8 = .ok (.ixor, 1) := by decide +kernel
theorem d_Gi_mayFollow_9 : decode b_Gi_mayFollow 9 = .ok (.iand, 1) := by decide +kernel
theorem d_Gi_mayFollow_10 : decode b_Gi_mayFollow 10 = .ok (.ifCond .ne (7), 3) := by decide +kernel
theorem d_Gi_mayFollow_13 : decode b_Gi_mayFollow 13 = .ok (.iconst 1, 1) := by decide +kernel
theorem d_Gi_mayFollow_14 : decode b_Gi_mayFollow 14 = .ok (.goto (4), 3) := by decide +kernel
theorem d_Gi_mayFollow_17 : decode b_Gi_mayFollow 17 = .ok (.iconst 0, 1) := by decide +kernel
theorem d_Gi_mayFollow_18 : decode b_Gi_mayFollow 18 = .ok (.ireturn, 1) := by decide +kernel
set_option maxHeartbeats 4000000 in
set_option maxRecDepth 100000 in
theorem c_Gi_mayFollow (l : Launch) (dC : Nat → ClassId) (dI : Nat → Nat → Nat) (cI cJ cG cZ : ClassId) (a : Nat → Nat) (fi : Nat → Int32) (fl : Nat → Int64) (ai : Nat → Nat → Int32) (al : Nat → Nat → Int64) (p0 : Int32) (p1 : Int32) (K : Int32 → Prop) (hw : Gi_mayFollow_w fi fl ai al p0 p1 K) : Met l y_Gi_mayFollow ws_Gi_mayFollow ({ frames := 0, cells := 0, slots := 0, locals := 0 }) (va_Pc [.ref (a 19), .int p0, .int p1] (zw_B (dC, dI) vwCl [(cI, .int), (cJ, .long), (cG, .array .int), (cZ, .boolean)] (cw cI cJ cG cZ a fi fl ai al))) (vp_Si K) 0 0 (fun _ => False) := by
  refine Met.ofW (cc := b_Gi_mayFollow) (maxL := 3) (ret := (Option.some FieldType.boolean)) (by decide) rfl ?_
  intro p e s m args below meth c s₁ B hml hv
  obtain ⟨rfl, hP, hK, hN⟩ := hv
  have hx := B.exec
  have hb := B.bytes
  have hr := B.returns
  have hts := atoms_spec (ws := ws_Gi_mayFollow) B.pre
  have ht : ∀ w ∈ zw_tbl, w.before _ s = true := fun w h => hts w (List.mem_cons_of_mem _ h)
  have hown : s.vm.findClass R_Gi = some m.cls := findClass_of_methodNamed B.named
  have hlocks := B.notSynchronized
  have hl := lv_entry ([.ref (a 19), .int p0, .int p1] : List Value) (n := 3) (Nat.le_of_ble_eq_true rfl)
  rw [lg_entry_eq]
  generalize (lg_sl ([.ref (a 19), .int p0, .int p1] : List Value) ++ List.replicate (3 - (lg_sl ([.ref (a 19), .int p0, .int p1] : List Value)).length) Slot.unset).toArray = ls at hl ⊢
  have hl : lv_has ls 3 [(0, .ref (a 19)), (1, .int p0), (2, .int p1)] := hl
  unfold Gi_mayFollow_w at hw
  refine lv_aload_n hx hb d_Gi_mayFollow_0 rfl (lv_at hl 0 rfl) ?_
  refine va_get (D := (dC, dI)) (ci := 2) (v := .ref (a 39)) (C := R_Gi) (T := T_Gi) (N := 7) hx hb ht in_Gi hown hK hP 19 rfl rfl 6 (by decide) (ht _ kw_152) (fun _ h9 => h9) rfl d_Gi_mayFollow_1 ?_
  refine lv_iload_n hx hb d_Gi_mayFollow_4 rfl (lv_at hl 1 rfl) ?_
  obtain ⟨h5, hw⟩ := hw
  refine va_iald (f := ai 39) hx hb hK hP 39 0 rfl rfl h5 d_Gi_mayFollow_5 ?_
  refine lv_iload_n hx hb d_Gi_mayFollow_6 rfl (lv_at hl 2 rfl) ?_
  refine lv_iconst (v := (-1 : Int32)) hx hb d_Gi_mayFollow_7 (by decide) ?_
  refine lv_ixor hx hb d_Gi_mayFollow_8 ?_
  refine lv_iand hx hb d_Gi_mayFollow_9 ?_
  refine lv_if_ne (tgt := 17) hx hb d_Gi_mayFollow_10 (by decide) (fun c10 => ?_) (fun c10 => ?_)
  · have hw := zw_ite_f c10 hw
    refine lv_iconst (v := (0 : Int32)) hx hb d_Gi_mayFollow_17 (by decide) ?_
    exact W.zret (v := (0 : Int32)) (ty := .boolean) hx hb hr rfl (fun t ht hW => ⟨(0 : Int32), rfl, hw, ht⟩) t_nil d_Gi_mayFollow_18
  · have hw := zw_ite_t c10 hw
    refine lv_iconst (v := (1 : Int32)) hx hb d_Gi_mayFollow_13 (by decide) ?_
    refine lv_goto (tgt := 18) hx hb d_Gi_mayFollow_14 (by decide) ?_
    exact W.zret (v := (1 : Int32)) (ty := .boolean) hx hb hr rfl (fun t ht hW => ⟨(1 : Int32), rfl, hw, ht⟩) t_nil d_Gi_mayFollow_18
def Pl_putAct_w (fi : Nat → Int32) (fl : Nat → Int64) (ai : Nat → Nat → Int32) (al : Nat → Nat → Int64) (p0 : Int32) (p1 : Int32) (p2 : Int32) (K : (Nat → Int32) → (Nat → Nat → Int32) → Prop) : Prop :=
  vp_in (fi 3) 40 ∧ (zw_nm (va_up ai 6 (upd (ai 6) (fi 3).toNatClampNeg p0)) (fun (ai_9 : Nat → Nat → Int32) =>
  vp_in (fi 3) 40 ∧ (zw_nm (va_up ai_9 7 (upd (ai_9 7) (fi 3).toNatClampNeg p1)) (fun (ai_19 : Nat → Nat → Int32) =>
  vp_in (fi 3) 40 ∧ (zw_nm (va_up ai_19 8 (upd (ai_19 8) (fi 3).toNatClampNeg p2)) (fun (ai_29 : Nat → Nat → Int32) =>
  vp_in (fi 3) 40 ∧ (zw_nm (va_up ai_29 9 (upd (ai_29 9) (fi 3).toNatClampNeg ((fi 2) - (1 : Int32)))) (fun (ai_44 : Nat → Nat → Int32) =>
  zw_nm (va_up fi 3 ((fi 3) + (1 : Int32))) (fun (fi_52 : Nat → Int32) =>
  K fi_52 ai_44)))))))))
theorem d_Pl_putAct_0 : decode b_Pl_putAct 0 = .ok (.aload_n 0, 1) := by decide +kernel
theorem d_Pl_putAct_1 : decode b_Pl_putAct 1 = .ok (.getfield 15, 3) := by decide +kernel
theorem d_Pl_putAct_4 : decode b_Pl_putAct 4 = .ok (.aload_n 0, 1) := by decide +kernel
theorem d_Pl_putAct_5 : decode b_Pl_putAct 5 = .ok (.getfield 44, 3) := by decide +kernel
theorem d_Pl_putAct_8 : decode b_Pl_putAct 8 = .ok (.iload_n 1, 1) := by decide +kernel
theorem d_Pl_putAct_9 : decode b_Pl_putAct 9 = .ok (.iastore, 1) := by decide +kernel
theorem d_Pl_putAct_10 : decode b_Pl_putAct 10 = .ok (.aload_n 0, 1) := by decide +kernel
theorem d_Pl_putAct_11 : decode b_Pl_putAct 11 = .ok (.getfield 18, 3) := by decide +kernel
theorem d_Pl_putAct_14 : decode b_Pl_putAct 14 = .ok (.aload_n 0, 1) := by decide +kernel
theorem d_Pl_putAct_15 : decode b_Pl_putAct 15 = .ok (.getfield 44, 3) := by decide +kernel
theorem d_Pl_putAct_18 : decode b_Pl_putAct 18 = .ok (.iload_n 2, 1) := by decide +kernel
theorem d_Pl_putAct_19 : decode b_Pl_putAct 19 = .ok (.iastore, 1) := by decide +kernel
theorem d_Pl_putAct_20 : decode b_Pl_putAct 20 = .ok (.aload_n 0, 1) := by decide +kernel
theorem d_Pl_putAct_21 : decode b_Pl_putAct 21 = .ok (.getfield 21, 3) := by decide +kernel
theorem d_Pl_putAct_24 : decode b_Pl_putAct 24 = .ok (.aload_n 0, 1) := by decide +kernel
theorem d_Pl_putAct_25 : decode b_Pl_putAct 25 = .ok (.getfield 44, 3) := by decide +kernel
theorem d_Pl_putAct_28 : decode b_Pl_putAct 28 = .ok (.iload_n 3, 1) := by decide +kernel
theorem d_Pl_putAct_29 : decode b_Pl_putAct 29 = .ok (.iastore, 1) := by decide +kernel
theorem d_Pl_putAct_30 : decode b_Pl_putAct 30 = .ok (.aload_n 0, 1) := by decide +kernel
theorem d_Pl_putAct_31 : decode b_Pl_putAct 31 = .ok (.getfield 24, 3) := by decide +kernel
theorem d_Pl_putAct_34 : decode b_Pl_putAct 34 = .ok (.aload_n 0, 1) := by decide +kernel
theorem d_Pl_putAct_35 : decode b_Pl_putAct 35 = .ok (.getfield 44, 3) := by decide +kernel
theorem d_Pl_putAct_38 : decode b_Pl_putAct 38 = .ok (.aload_n 0, 1) := by decide +kernel
theorem d_Pl_putAct_39 : decode b_Pl_putAct 39 = .ok (.getfield 37, 3) := by decide +kernel
theorem d_Pl_putAct_42 : decode b_Pl_putAct 42 = .ok (.iconst 1, 1) := by decide +kernel
theorem d_Pl_putAct_43 : decode b_Pl_putAct 43 = .ok (.isub, 1) := by decide +kernel
theorem d_Pl_putAct_44 : decode b_Pl_putAct 44 = .ok (.iastore, 1) := by decide +kernel
theorem d_Pl_putAct_45 : decode b_Pl_putAct 45 = .ok (.aload_n 0, 1) := by decide +kernel
theorem d_Pl_putAct_46 : decode b_Pl_putAct 46 = .ok (.dup, 1) := by decide +kernel
theorem d_Pl_putAct_47 : decode b_Pl_putAct 47 = .ok (.getfield 44, 3) := by decide +kernel
theorem d_Pl_putAct_50 : decode b_Pl_putAct 50 = .ok (.iconst 1, 1) := by decide +kernel
theorem d_Pl_putAct_51 : decode b_Pl_putAct 51 = .ok (.iadd, 1) := by decide +kernel
theorem d_Pl_putAct_52 : decode b_Pl_putAct 52 = .ok (.putfield 44, 3) := by decide +kernel
theorem d_Pl_putAct_55 : decode b_Pl_putAct 55 = .ok (.return_, 1) := by decide +kernel
set_option maxHeartbeats 4000000 in
set_option maxRecDepth 100000 in
theorem c_Pl_putAct (l : Launch) (dC : Nat → ClassId) (dI : Nat → Nat → Nat) (cI cJ cG cZ : ClassId) (a : Nat → Nat) (sz : Nat) (fi : Nat → Int32) (fl : Nat → Int64) (ai : Nat → Nat → Int32) (al : Nat → Nat → Int64) (p0 : Int32) (p1 : Int32) (p2 : Int32) (K : (Nat → Int32) → (Nat → Nat → Int32) → Prop) (hw : Pl_putAct_w fi fl ai al p0 p1 p2 K) : Met l y_Pl_putAct ws_Pl_putAct ({ frames := 0, cells := 0, slots := 0, locals := 0 }) (va_Pc [.ref (a 4), .int p0, .int p1, .int p2] (zw_Bw (dC, dI) vwCl [(cI, .int), (cJ, .long), (cG, .array .int), (cZ, .boolean)] (cw cI cJ cG cZ a fi fl ai al) sz)) (va_Qv (fun (u : zw_Z) => (zw_k_fi_aiv fl al K) u.1 u.2.1 u.2.2.1 u.2.2.2) (fun u t => zw_E (dC, dI) vwCl [(cI, .int), (cJ, .long), (cG, .array .int), (cZ, .boolean)] (va_A (cw cI cJ cG cZ a fi fl ai al) sz) (cw cI cJ cG cZ a u.1 u.2.1 u.2.2.1 u.2.2.2) t) (va_A (cw cI cJ cG cZ a fi fl ai al) sz)) 0 0 (va_A (cw cI cJ cG cZ a fi fl ai al) sz) := by
  refine Met.ofW (cc := b_Pl_putAct) (maxL := 4) (ret := (Option.none : Option FieldType)) (by decide) rfl ?_
  intro p e s m args below meth c s₁ B hml hv
  obtain ⟨rfl, hsz, hP, hK, hD0, hN⟩ := hv
  have hx := B.exec
  have hb := B.bytes
  have hr := B.returns
  have hts := atoms_spec (ws := ws_Pl_putAct) B.pre
  have ht : ∀ w ∈ zw_tbl, w.before _ s = true := fun w h => hts w (List.mem_cons_of_mem _ h)
  have hown : s.vm.findClass R_Pl = some m.cls := findClass_of_methodNamed B.named
  have hlocks := B.notSynchronized
  subst hsz
  have hD := hD0.self (sz := s.heap.size)
  generalize hAe : va_A (cw cI cJ cG cZ a fi fl ai al) s.heap.size = A at hD ⊢
  have hA : ∀ q : Nat, s.heap.size ≤ q → A q := fun q h => by rw [← hAe]; exact Or.inr h
  have hS : va_S A s.heap s.heap [] := va_S.rf
  have hl := lv_entry ([.ref (a 4), .int p0, .int p1, .int p2] : List Value) (n := 4) (Nat.le_of_ble_eq_true rfl)
  rw [lg_entry_eq]
  generalize (lg_sl ([.ref (a 4), .int p0, .int p1, .int p2] : List Value) ++ List.replicate (4 - (lg_sl ([.ref (a 4), .int p0, .int p1, .int p2] : List Value)).length) Slot.unset).toArray = ls at hl ⊢
  have hl : lv_has ls 4 [(0, .ref (a 4)), (1, .int p0), (2, .int p1), (3, .int p2)] := hl
  unfold Pl_putAct_w at hw
  obtain ⟨H, hH⟩ : ∃ H, H = s.heap := ⟨_, rfl⟩
  obtain ⟨locs, hlo⟩ : ∃ q : List Loc, q = [] := ⟨_, rfl⟩
  have hP : va_P (dC, dI) vwCl (cw cI cJ cG cZ a fi fl ai al) H := by rw [hH]; exact hP
  have hS : va_S A s.heap H locs := by rw [hH, hlo]; exact hS
  have key : W p l e (headSpec ws_Pl_putAct ({ frames := 0, cells := 0, slots := 0, locals := 0 })).room s m ([.ref (a 4), .int p0, .int p1, .int p2] : List Value).toArray below meth c H locs 0 0 (MQ below (va_Qv (fun (u : zw_Z) => (zw_k_fi_aiv fl al K) u.1 u.2.1 u.2.2.1 u.2.2.2) (fun u t => zw_E (dC, dI) vwCl [(cI, .int), (cJ, .long), (cG, .array .int), (cZ, .boolean)] A (cw cI cJ cG cZ a u.1 u.2.1 u.2.2.1 u.2.2.2) t) A) ([.ref (a 4), .int p0, .int p1, .int p2] : List Value).toArray s 0 0 A) (F0 m 0 ls []) := by
    refine lv_aload_n hx hb d_Pl_putAct_0 rfl (lv_at hl 0 rfl) ?_
    refine va_get (D := (dC, dI)) (ci := 3) (v := .ref (a 6)) (C := R_Pl) (T := T_Pl) (N := 11) hx hb ht in_Pl hown hK hP 4 rfl rfl 1 (by decide) (ht _ kw_46) (fun _ h9 => h9) rfl d_Pl_putAct_1 ?_
    refine lv_aload_n hx hb d_Pl_putAct_4 rfl (lv_at hl 0 rfl) ?_
    refine va_get (D := (dC, dI)) (ci := 3) (v := .int (fi 3)) (C := R_Pl) (T := T_Pl) (N := 11) hx hb ht in_Pl hown hK hP 4 rfl rfl 8 (by decide) (ht _ kw_63) (fun _ h9 => h9) rfl d_Pl_putAct_5 ?_
    refine lv_iload_n hx hb d_Pl_putAct_8 rfl (lv_at hl 1 rfl) ?_
    obtain ⟨h9, hw⟩ := hw
    refine va_iast (f := ai 6) hx hb hK hP hD hS 6 0 rfl rfl h9 d_Pl_putAct_9 (fun H locs hP hD hS => ?_)
    have hP := cwpai_6 hP
    have hD := cwdai_6 hD
    obtain ⟨ai_9, eai_9⟩ : ∃ z, z = va_up ai 6 (upd (ai 6) (fi 3).toNatClampNeg p0) := ⟨_, rfl⟩
    rw [← eai_9] at hP hD
    have hw := zw_nm_x eai_9 hw
    refine lv_aload_n hx hb d_Pl_putAct_10 rfl (lv_at hl 0 rfl) ?_
    refine va_get (D := (dC, dI)) (ci := 3) (v := .ref (a 7)) (C := R_Pl) (T := T_Pl) (N := 11) hx hb ht in_Pl hown hK hP 4 rfl rfl 2 (by decide) (ht _ kw_48) (fun _ h9 => h9) rfl d_Pl_putAct_11 ?_
    refine lv_aload_n hx hb d_Pl_putAct_14 rfl (lv_at hl 0 rfl) ?_
    refine va_get (D := (dC, dI)) (ci := 3) (v := .int (fi 3)) (C := R_Pl) (T := T_Pl) (N := 11) hx hb ht in_Pl hown hK hP 4 rfl rfl 8 (by decide) (ht _ kw_63) (fun _ h9 => h9) rfl d_Pl_putAct_15 ?_
    refine lv_iload_n hx hb d_Pl_putAct_18 rfl (lv_at hl 2 rfl) ?_
    obtain ⟨h19, hw⟩ := hw
    refine va_iast (f := ai_9 7) hx hb hK hP hD hS 7 0 rfl rfl h19 d_Pl_putAct_19 (fun H locs hP hD hS => ?_)
    have hP := cwpai_7 hP
    have hD := cwdai_7 hD
    obtain ⟨ai_19, eai_19⟩ : ∃ z, z = va_up ai_9 7 (upd (ai_9 7) (fi 3).toNatClampNeg p1) := ⟨_, rfl⟩
    rw [← eai_19] at hP hD
    have hw := zw_nm_x eai_19 hw
    refine lv_aload_n hx hb d_Pl_putAct_20 rfl (lv_at hl 0 rfl) ?_
    refine va_get (D := (dC, dI)) (ci := 3) (v := .ref (a 8)) (C := R_Pl) (T := T_Pl) (N := 11) hx hb ht in_Pl hown hK hP 4 rfl rfl 3 (by decide) (ht _ kw_50) (fun _ h9 => h9) rfl d_Pl_putAct_21 ?_
    refine lv_aload_n hx hb d_Pl_putAct_24 rfl (lv_at hl 0 rfl) ?_
    refine va_get (D := (dC, dI)) (ci := 3) (v := .int (fi 3)) (C := R_Pl) (T := T_Pl) (N := 11) hx hb ht in_Pl hown hK hP 4 rfl rfl 8 (by decide) (ht _ kw_63) (fun _ h9 => h9) rfl d_Pl_putAct_25 ?_
    refine lv_iload_n hx hb d_Pl_putAct_28 rfl (lv_at hl 3 rfl) ?_
    obtain ⟨h29, hw⟩ := hw
    refine va_iast (f := ai_19 8) hx hb hK hP hD hS 8 0 rfl rfl h29 d_Pl_putAct_29 (fun H locs hP hD hS => ?_)
    have hP := cwpai_8 hP
    have hD := cwdai_8 hD
    obtain ⟨ai_29, eai_29⟩ : ∃ z, z = va_up ai_19 8 (upd (ai_19 8) (fi 3).toNatClampNeg p2) := ⟨_, rfl⟩
    rw [← eai_29] at hP hD
    have hw := zw_nm_x eai_29 hw
    refine lv_aload_n hx hb d_Pl_putAct_30 rfl (lv_at hl 0 rfl) ?_
    refine va_get (D := (dC, dI)) (ci := 3) (v := .ref (a 9)) (C := R_Pl) (T := T_Pl) (N := 11) hx hb ht in_Pl hown hK hP 4 rfl rfl 4 (by decide) (ht _ kw_52) (fun _ h9 => h9) rfl d_Pl_putAct_31 ?_
    refine lv_aload_n hx hb d_Pl_putAct_34 rfl (lv_at hl 0 rfl) ?_
    refine va_get (D := (dC, dI)) (ci := 3) (v := .int (fi 3)) (C := R_Pl) (T := T_Pl) (N := 11) hx hb ht in_Pl hown hK hP 4 rfl rfl 8 (by decide) (ht _ kw_63) (fun _ h9 => h9) rfl d_Pl_putAct_35 ?_
    refine lv_aload_n hx hb d_Pl_putAct_38 rfl (lv_at hl 0 rfl) ?_
    refine va_get (D := (dC, dI)) (ci := 3) (v := .int (fi 2)) (C := R_Pl) (T := T_Pl) (N := 11) hx hb ht in_Pl hown hK hP 4 rfl rfl 7 (by decide) (ht _ kw_59) (fun _ h9 => h9) rfl d_Pl_putAct_39 ?_
    refine lv_iconst (v := (1 : Int32)) hx hb d_Pl_putAct_42 (by decide) ?_
    refine lv_isub hx hb d_Pl_putAct_43 ?_
    obtain ⟨h44, hw⟩ := hw
    refine va_iast (f := ai_29 9) hx hb hK hP hD hS 9 0 rfl rfl h44 d_Pl_putAct_44 (fun H locs hP hD hS => ?_)
    have hP := cwpai_9 hP
    have hD := cwdai_9 hD
    obtain ⟨ai_44, eai_44⟩ : ∃ z, z = va_up ai_29 9 (upd (ai_29 9) (fi 3).toNatClampNeg ((fi 2) - (1 : Int32))) := ⟨_, rfl⟩
    rw [← eai_44] at hP hD
    have hw := zw_nm_x eai_44 hw
    refine lv_aload_n hx hb d_Pl_putAct_45 rfl (lv_at hl 0 rfl) ?_
    refine lv_dup hx hb d_Pl_putAct_46 rfl ?_
    refine va_get (D := (dC, dI)) (ci := 3) (v := .int (fi 3)) (C := R_Pl) (T := T_Pl) (N := 11) hx hb ht in_Pl hown hK hP 4 rfl rfl 8 (by decide) (ht _ kw_63) (fun _ h9 => h9) rfl d_Pl_putAct_47 ?_
    refine lv_iconst (v := (1 : Int32)) hx hb d_Pl_putAct_50 (by decide) ?_
    refine lv_iadd hx hb d_Pl_putAct_51 ?_
    refine va_put (D := (dC, dI)) (ci := 3) (v := .int ((fi 3) + (1 : Int32))) (ty := .int) (C := R_Pl) (T := T_Pl) (N := 11) hx hb ht in_Pl t_Pl t_Pl_ok n_Pl hown hK hP hD hS 4 rfl rfl 8 (by decide) (ht _ kw_63) (fun _ h9 => h9) rfl (by decide +kernel) rfl rfl (Nat.le_of_ble_eq_true rfl) d_Pl_putAct_52 (fun H locs hP hD hS => ?_)
    have hP := cwpfi_3 hP
    have hD := cwdfi_3 hD
    obtain ⟨fi_52, efi_52⟩ : ∃ z, z = va_up fi 3 ((fi 3) + (1 : Int32)) := ⟨_, rfl⟩
    rw [← efi_52] at hP hD
    have hw := zw_nm_x efi_52 hw
    exact W.vret hx hb hr (fun t ht hW => ⟨⟨(fi_52, fl, ai_44, al), rfl, ⟨rfl, rfl, hw⟩, by rw [ht]; exact hP, va_K.moved hW.alike hK, hD⟩, hS.F ht⟩) hS.2.2 d_Pl_putAct_55
  rw [hH, hlo] at key
  exact key
def Pl_putPart_w (fi : Nat → Int32) (fl : Nat → Int64) (ai : Nat → Nat → Int32) (al : Nat → Nat → Int64) (p0 : Int32) (K : (Nat → Int32) → (Nat → Nat → Int32) → Prop) : Prop :=
  vp_in (fi 4) 6 ∧ (zw_nm (va_up ai 10 (upd (ai 10) (fi 4).toNatClampNeg p0)) (fun (ai_9 : Nat → Nat → Int32) =>
  vp_in (fi 4) 6 ∧ (zw_nm (va_up ai_9 11 (upd (ai_9 11) (fi 4).toNatClampNeg ((fi 2) - (1 : Int32)))) (fun (ai_24 : Nat → Nat → Int32) =>
  zw_nm (va_up fi 4 ((fi 4) + (1 : Int32))) (fun (fi_32 : Nat → Int32) =>
  Pl_putAct_w fi_32 fl ai_24 al (0 : Int32) p0 (0 : Int32) (fun (fi_39 : Nat → Int32) (ai_39 : Nat → Nat → Int32) =>
  K fi_39 ai_39))))))
theorem d_Pl_putPart_0 : decode b_Pl_putPart 0 = .ok (.aload_n 0, 1) := by decide +kernel
theorem d_Pl_putPart_1 : decode b_Pl_putPart 1 = .ok (.getfield 27, 3) := by decide +kernel
theorem d_Pl_putPart_4 : decode b_Pl_putPart 4 = .ok (.aload_n 0, 1) := by decide +kernel
theorem d_Pl_putPart_5 : decode b_Pl_putPart 5 = .ok (.getfield 64, 3) := by decide +kernel
theorem d_Pl_putPart_8 : decode b_Pl_putPart 8 = .ok (.iload_n 1, 1) := by decide +kernel
theorem d_Pl_putPart_9 : decode b_Pl_putPart 9 = .ok (.iastore, 1) := by decide +kernel
theorem d_Pl_putPart_10 : decode b_Pl_putPart 10 = .ok (.aload_n 0, 1) := by decide +kernel
theorem d_Pl_putPart_11 : decode b_Pl_putPart 11 = .ok (.getfield 30, 3) := by decide +kernel
theorem d_Pl_putPart_14 : decode b_Pl_putPart 14 = .ok (.aload_n 0, 1) := by decide +kernel
theorem d_Pl_putPart_15 : decode b_Pl_putPart 15 = .ok (.getfield 64, 3) := by decide +kernel
theorem d_Pl_putPart_18 : decode b_Pl_putPart 18 = .ok (.aload_n 0, 1) := by decide +kernel
theorem d_Pl_putPart_19 : decode b_Pl_putPart 19 = .ok (.getfield 37, 3) := by decide +kernel
theorem d_Pl_putPart_22 : decode b_Pl_putPart 22 = .ok (.iconst 1, 1) := by decide +kernel
theorem d_Pl_putPart_23 : decode b_Pl_putPart 23 = .ok (.isub, 1) := by decide +kernel
theorem d_Pl_putPart_24 : decode b_Pl_putPart 24 = .ok (.iastore, 1) := by decide +kernel
theorem d_Pl_putPart_25 : decode b_Pl_putPart 25 = .ok (.aload_n 0, 1) := by decide +kernel
theorem d_Pl_putPart_26 : decode b_Pl_putPart 26 = .ok (.dup, 1) := by decide +kernel
theorem d_Pl_putPart_27 : decode b_Pl_putPart 27 = .ok (.getfield 64, 3) := by decide +kernel
theorem d_Pl_putPart_30 : decode b_Pl_putPart 30 = .ok (.iconst 1, 1) := by decide +kernel
theorem d_Pl_putPart_31 : decode b_Pl_putPart 31 = .ok (.iadd, 1) := by decide +kernel
theorem d_Pl_putPart_32 : decode b_Pl_putPart 32 = .ok (.putfield 64, 3) := by decide +kernel
theorem d_Pl_putPart_35 : decode b_Pl_putPart 35 = .ok (.aload_n 0, 1) := by decide +kernel
theorem d_Pl_putPart_36 : decode b_Pl_putPart 36 = .ok (.iconst 0, 1) := by decide +kernel
theorem d_Pl_putPart_37 : decode b_Pl_putPart 37 = .ok (.iload_n 1, 1) := by decide +kernel
theorem d_Pl_putPart_38 : decode b_Pl_putPart 38 = .ok (.iconst 0, 1) := by decide +kernel
theorem d_Pl_putPart_39 : decode b_Pl_putPart 39 = .ok (.invokevirtual 71, 3) := by decide +kernel
theorem d_Pl_putPart_42 : decode b_Pl_putPart 42 = .ok (.return_, 1) := by decide +kernel
set_option maxHeartbeats 4000000 in
set_option maxRecDepth 100000 in
theorem c_Pl_putPart (l : Launch) (dC : Nat → ClassId) (dI : Nat → Nat → Nat) (cI cJ cG cZ : ClassId) (a : Nat → Nat) (sz : Nat) (fi : Nat → Int32) (fl : Nat → Int64) (ai : Nat → Nat → Int32) (al : Nat → Nat → Int64) (p0 : Int32) (K : (Nat → Int32) → (Nat → Nat → Int32) → Prop) (hw : Pl_putPart_w fi fl ai al p0 K) : Met l y_Pl_putPart ws_Pl_putPart ({ frames := 1, cells := 0, slots := 0, locals := 23 }) (va_Pc [.ref (a 4), .int p0] (zw_Bw (dC, dI) vwCl [(cI, .int), (cJ, .long), (cG, .array .int), (cZ, .boolean)] (cw cI cJ cG cZ a fi fl ai al) sz)) (va_Qv (fun (u : zw_Z) => (zw_k_fi_aiv fl al K) u.1 u.2.1 u.2.2.1 u.2.2.2) (fun u t => zw_E (dC, dI) vwCl [(cI, .int), (cJ, .long), (cG, .array .int), (cZ, .boolean)] (va_A (cw cI cJ cG cZ a fi fl ai al) sz) (cw cI cJ cG cZ a u.1 u.2.1 u.2.2.1 u.2.2.2) t) (va_A (cw cI cJ cG cZ a fi fl ai al) sz)) 0 0 (va_A (cw cI cJ cG cZ a fi fl ai al) sz) := by
  refine Met.ofW (cc := b_Pl_putPart) (maxL := 2) (ret := (Option.none : Option FieldType)) (by decide) rfl ?_
  intro p e s m args below meth c s₁ B hml hv
  obtain ⟨rfl, hsz, hP, hK, hD0, hN⟩ := hv
  have hx := B.exec
  have hb := B.bytes
  have hr := B.returns
  have hts := atoms_spec (ws := ws_Pl_putPart) B.pre
  have ht : ∀ w ∈ zw_tbl, w.before _ s = true := fun w h => hts w (List.mem_cons_of_mem _ h)
  have hown : s.vm.findClass R_Pl = some m.cls := findClass_of_methodNamed B.named
  have hlocks := B.notSynchronized
  subst hsz
  have hD := hD0.self (sz := s.heap.size)
  generalize hAe : va_A (cw cI cJ cG cZ a fi fl ai al) s.heap.size = A at hD ⊢
  have hA : ∀ q : Nat, s.heap.size ≤ q → A q := fun q h => by rw [← hAe]; exact Or.inr h
  have hS : va_S A s.heap s.heap [] := va_S.rf
  have hl := lv_entry ([.ref (a 4), .int p0] : List Value) (n := 2) (Nat.le_of_ble_eq_true rfl)
  rw [lg_entry_eq]
  generalize (lg_sl ([.ref (a 4), .int p0] : List Value) ++ List.replicate (2 - (lg_sl ([.ref (a 4), .int p0] : List Value)).length) Slot.unset).toArray = ls at hl ⊢
  have hl : lv_has ls 2 [(0, .ref (a 4)), (1, .int p0)] := hl
  unfold Pl_putPart_w at hw
  obtain ⟨H, hH⟩ : ∃ H, H = s.heap := ⟨_, rfl⟩
  obtain ⟨locs, hlo⟩ : ∃ q : List Loc, q = [] := ⟨_, rfl⟩
  have hP : va_P (dC, dI) vwCl (cw cI cJ cG cZ a fi fl ai al) H := by rw [hH]; exact hP
  have hS : va_S A s.heap H locs := by rw [hH, hlo]; exact hS
  have key : W p l e (headSpec ws_Pl_putPart ({ frames := 1, cells := 0, slots := 0, locals := 23 })).room s m ([.ref (a 4), .int p0] : List Value).toArray below meth c H locs 0 0 (MQ below (va_Qv (fun (u : zw_Z) => (zw_k_fi_aiv fl al K) u.1 u.2.1 u.2.2.1 u.2.2.2) (fun u t => zw_E (dC, dI) vwCl [(cI, .int), (cJ, .long), (cG, .array .int), (cZ, .boolean)] A (cw cI cJ cG cZ a u.1 u.2.1 u.2.2.1 u.2.2.2) t) A) ([.ref (a 4), .int p0] : List Value).toArray s 0 0 A) (F0 m 0 ls []) := by
    refine lv_aload_n hx hb d_Pl_putPart_0 rfl (lv_at hl 0 rfl) ?_
    refine va_get (D := (dC, dI)) (ci := 3) (v := .ref (a 10)) (C := R_Pl) (T := T_Pl) (N := 11) hx hb ht in_Pl hown hK hP 4 rfl rfl 5 (by decide) (ht _ kw_54) (fun _ h9 => h9) rfl d_Pl_putPart_1 ?_
    refine lv_aload_n hx hb d_Pl_putPart_4 rfl (lv_at hl 0 rfl) ?_
    refine va_get (D := (dC, dI)) (ci := 3) (v := .int (fi 4)) (C := R_Pl) (T := T_Pl) (N := 11) hx hb ht in_Pl hown hK hP 4 rfl rfl 9 (by decide) (ht _ kw_68) (fun _ h9 => h9) rfl d_Pl_putPart_5 ?_
    refine lv_iload_n hx hb d_Pl_putPart_8 rfl (lv_at hl 1 rfl) ?_
    obtain ⟨h9, hw⟩ := hw
    refine va_iast (f := ai 10) hx hb hK hP hD hS 10 0 rfl rfl h9 d_Pl_putPart_9 (fun H locs hP hD hS => ?_)
    have hP := cwpai_10 hP
    have hD := cwdai_10 hD
    obtain ⟨ai_9, eai_9⟩ : ∃ z, z = va_up ai 10 (upd (ai 10) (fi 4).toNatClampNeg p0) := ⟨_, rfl⟩
    rw [← eai_9] at hP hD
    have hw := zw_nm_x eai_9 hw
    refine lv_aload_n hx hb d_Pl_putPart_10 rfl (lv_at hl 0 rfl) ?_
    refine va_get (D := (dC, dI)) (ci := 3) (v := .ref (a 11)) (C := R_Pl) (T := T_Pl) (N := 11) hx hb ht in_Pl hown hK hP 4 rfl rfl 6 (by decide) (ht _ kw_56) (fun _ h9 => h9) rfl d_Pl_putPart_11 ?_
    refine lv_aload_n hx hb d_Pl_putPart_14 rfl (lv_at hl 0 rfl) ?_
    refine va_get (D := (dC, dI)) (ci := 3) (v := .int (fi 4)) (C := R_Pl) (T := T_Pl) (N := 11) hx hb ht in_Pl hown hK hP 4 rfl rfl 9 (by decide) (ht _ kw_68) (fun _ h9 => h9) rfl d_Pl_putPart_15 ?_
    refine lv_aload_n hx hb d_Pl_putPart_18 rfl (lv_at hl 0 rfl) ?_
    refine va_get (D := (dC, dI)) (ci := 3) (v := .int (fi 2)) (C := R_Pl) (T := T_Pl) (N := 11) hx hb ht in_Pl hown hK hP 4 rfl rfl 7 (by decide) (ht _ kw_59) (fun _ h9 => h9) rfl d_Pl_putPart_19 ?_
    refine lv_iconst (v := (1 : Int32)) hx hb d_Pl_putPart_22 (by decide) ?_
    refine lv_isub hx hb d_Pl_putPart_23 ?_
    obtain ⟨h24, hw⟩ := hw
    refine va_iast (f := ai_9 11) hx hb hK hP hD hS 11 0 rfl rfl h24 d_Pl_putPart_24 (fun H locs hP hD hS => ?_)
    have hP := cwpai_11 hP
    have hD := cwdai_11 hD
    obtain ⟨ai_24, eai_24⟩ : ∃ z, z = va_up ai_9 11 (upd (ai_9 11) (fi 4).toNatClampNeg ((fi 2) - (1 : Int32))) := ⟨_, rfl⟩
    rw [← eai_24] at hP hD
    have hw := zw_nm_x eai_24 hw
    refine lv_aload_n hx hb d_Pl_putPart_25 rfl (lv_at hl 0 rfl) ?_
    refine lv_dup hx hb d_Pl_putPart_26 rfl ?_
    refine va_get (D := (dC, dI)) (ci := 3) (v := .int (fi 4)) (C := R_Pl) (T := T_Pl) (N := 11) hx hb ht in_Pl hown hK hP 4 rfl rfl 9 (by decide) (ht _ kw_68) (fun _ h9 => h9) rfl d_Pl_putPart_27 ?_
    refine lv_iconst (v := (1 : Int32)) hx hb d_Pl_putPart_30 (by decide) ?_
    refine lv_iadd hx hb d_Pl_putPart_31 ?_
    refine va_put (D := (dC, dI)) (ci := 3) (v := .int ((fi 4) + (1 : Int32))) (ty := .int) (C := R_Pl) (T := T_Pl) (N := 11) hx hb ht in_Pl t_Pl t_Pl_ok n_Pl hown hK hP hD hS 4 rfl rfl 9 (by decide) (ht _ kw_68) (fun _ h9 => h9) rfl (by decide +kernel) rfl rfl (Nat.le_of_ble_eq_true rfl) d_Pl_putPart_32 (fun H locs hP hD hS => ?_)
    have hP := cwpfi_4 hP
    have hD := cwdfi_4 hD
    obtain ⟨fi_32, efi_32⟩ : ∃ z, z = va_up fi 4 ((fi 4) + (1 : Int32)) := ⟨_, rfl⟩
    rw [← efi_32] at hP hD
    have hw := zw_nm_x efi_32 hw
    refine lv_aload_n hx hb d_Pl_putPart_35 rfl (lv_at hl 0 rfl) ?_
    refine lv_iconst (v := (0 : Int32)) hx hb d_Pl_putPart_36 (by decide) ?_
    refine lv_iload_n hx hb d_Pl_putPart_37 rfl (lv_at hl 1 rfl) ?_
    refine lv_iconst (v := (0 : Int32)) hx hb d_Pl_putPart_38 (by decide) ?_
    refine zw_cv (va_runV (As := [.int (0 : Int32), .int p0, .int (0 : Int32)]) (rest := []) ⟨hx, hb, hml, hown, hts⟩ (c_Pl_putAct l dC dI cI cJ cG cZ a H.size fi_32 fl ai_24 al (0 : Int32) p0 (0 : Int32) _ hw) (cwV 3 hts (zw_goodV kw_378 kw_379 kw_380 kw_3 kw_381) rfl rfl rfl hd_Pl_putAct ⟨Nat.le_of_ble_eq_true rfl, Nat.le_of_ble_eq_true rfl⟩) (zw_preVw (ci := 3) (q0 := 4) hK hN hP hD rfl rfl) rfl rfl hl.1 rfl (lv_room (Nat.le_of_ble_eq_true rfl)) d_Pl_putPart_39 ⟨Nat.le_of_ble_eq_true rfl, Nat.le_of_ble_eq_true rfl⟩) hD hS hA (fun fi_39 fl_39 ai_39 al_39 H locs hw hP hD hS => ?_)
    obtain ⟨rfl, rfl, hw⟩ := hw
    exact W.vret hx hb hr (fun t ht hW => ⟨⟨(fi_39, fl, ai_39, al), rfl, ⟨rfl, rfl, hw⟩, by rw [ht]; exact hP, va_K.moved hW.alike hK, hD⟩, hS.F ht⟩) hS.2.2 d_Pl_putPart_42
  rw [hH, hlo] at key
  exact key
def SS_add_w (fi : Nat → Int32) (fl : Nat → Int64) (ai : Nat → Nat → Int32) (al : Nat → Nat → Int64) (p0 : Int32) (K : Int32 → (Nat → Int32) → (Nat → Nat → Int32) → Prop) : Prop :=
  Gi_hasPart_w fi fl ai al p0 (fun (r5 : Int32) =>
  if r5 = 0 then (
    K (0 : Int32) fi ai)
  else (
    Pl_takesPart_w fi fl ai al p0 (fun (r16 : Int32) =>
    if r16 = 0 then (
      K (0 : Int32) fi ai)
    else (
      Pl_partBits_w fi fl ai al  (fun (r31 : Int32) =>
      Gi_mayFollow_w fi fl ai al p0 r31 (fun (r34 : Int32) =>
      if r34 = 0 then (
        K (0 : Int32) fi ai)
      else (
        Pl_putPart_w fi fl ai al p0 (fun (fi_47 : Nat → Int32) (ai_47 : Nat → Nat → Int32) =>
        K (1 : Int32) fi_47 ai_47))))))))
theorem d_SS_add_0 : decode b_SS_add 0 = .ok (.aload_n 0, 1) := by decide +kernel
theorem d_SS_add_1 : decode b_SS_add 1 = .ok (.getfield 55, 3) := by decide +kernel
theorem d_SS_add_4 : decode b_SS_add 4 = .ok (.iload_n 1, 1) := by decide +kernel
theorem d_SS_add_5 : decode b_SS_add 5 = .ok (.invokevirtual 77, 3) := by decide +kernel
theorem d_SS_add_8 : decode b_SS_add 8 = .ok (.ifCond .eq (32), 3) := by decide +kernel
theorem d_SS_add_11 : decode b_SS_add 11 = .ok (.aload_n 0, 1) := by decide +kernel
theorem d_SS_add_12 : decode b_SS_add 12 = .ok (.getfield 19, 3) := by decide +kernel
theorem d_SS_add_15 : decode b_SS_add 15 = .ok (.iload_n 1, 1) := by decide +kernel
theorem d_SS_add_16 : decode b_SS_add 16 = .ok (.invokevirtual 133, 3) := by decide +kernel
theorem d_SS_add_19 : decode b_SS_add 19 = .ok (.ifCond .eq (21), 3) := by decide +kernel
theorem d_SS_add_22 : decode b_SS_add 22 = .ok (.aload_n 0, 1) := by decide +kernel
theorem d_SS_add_23 : decode b_SS_add 23 = .ok (.getfield 55, 3) := by decide +kernel
theorem d_SS_add_26 : decode b_SS_add 26 = .ok (.iload_n 1, 1) := by decide +kernel
theorem d_SS_add_27 : decode b_SS_add 27 = .ok (.aload_n 0, 1) := by decide +kernel
theorem d_SS_add_28 : decode b_SS_add 28 = .ok (.getfield 19, 3) := by decide +kernel
theorem d_SS_add_31 : decode b_SS_add 31 = .ok (.invokevirtual 136, 3) := by decide +kernel
theorem d_SS_add_34 : decode b_SS_add 34 = .ok (.invokevirtual 140, 3) := by decide +kernel
theorem d_SS_add_37 : decode b_SS_add 37 = .ok (.ifCond .ne (5), 3) := by decide +kernel
theorem d_SS_add_40 : decode b_SS_add 40 = .ok (.iconst 0, 1) := by decide +kernel
theorem d_SS_add_41 : decode b_SS_add 41 = .ok (.ireturn, 1) := by decide +kernel
theorem d_SS_add_42 : decode b_SS_add 42 = .ok (.aload_n 0, 1) := by decide +kernel
theorem d_SS_add_43 : decode b_SS_add 43 = .ok (.getfield 19, 3) := by decide +kernel
theorem d_SS_add_46 : decode b_SS_add 46 = .ok (.iload_n 1, 1) := by decide +kernel
theorem d_SS_add_47 : decode b_SS_add 47 = .ok (.invokevirtual 143, 3) := by decide +kernel
theorem d_SS_add_50 : decode b_SS_add 50 = .ok (.iconst 1, 1) := by decide +kernel
theorem d_SS_add_51 : decode b_SS_add 51 = .ok (.ireturn, 1) := by decide +kernel
set_option maxHeartbeats 4000000 in
set_option maxRecDepth 100000 in
theorem c_SS_add (l : Launch) (dC : Nat → ClassId) (dI : Nat → Nat → Nat) (cI cJ cG cZ : ClassId) (a : Nat → Nat) (sz : Nat) (fi : Nat → Int32) (fl : Nat → Int64) (ai : Nat → Nat → Int32) (al : Nat → Nat → Int64) (p0 : Int32) (K : Int32 → (Nat → Int32) → (Nat → Nat → Int32) → Prop) (hw : SS_add_w fi fl ai al p0 K) : Met l y_SS_add ws_SS_add ({ frames := 2, cells := 0, slots := 0, locals := 44 }) (va_Pc [.ref (a 0), .int p0] (zw_Bw (dC, dI) vwCl [(cI, .int), (cJ, .long), (cG, .array .int), (cZ, .boolean)] (cw cI cJ cG cZ a fi fl ai al) sz)) (va_Qi (fun r (u : zw_Z) => (zw_k_fi_air fl al K) r u.1 u.2.1 u.2.2.1 u.2.2.2) (fun u t => zw_E (dC, dI) vwCl [(cI, .int), (cJ, .long), (cG, .array .int), (cZ, .boolean)] (va_A (cw cI cJ cG cZ a fi fl ai al) sz) (cw cI cJ cG cZ a u.1 u.2.1 u.2.2.1 u.2.2.2) t) (va_A (cw cI cJ cG cZ a fi fl ai al) sz)) 0 0 (va_A (cw cI cJ cG cZ a fi fl ai al) sz) := by
  refine Met.ofW (cc := b_SS_add) (maxL := 2) (ret := (Option.some FieldType.boolean)) (by decide) rfl ?_
  intro p e s m args below meth c s₁ B hml hv
  obtain ⟨rfl, hsz, hP, hK, hD0, hN⟩ := hv
  have hx := B.exec
  have hb := B.bytes
  have hr := B.returns
  have hts := atoms_spec (ws := ws_SS_add) B.pre
  have ht : ∀ w ∈ zw_tbl, w.before _ s = true := fun w h => hts w (List.mem_cons_of_mem _ h)
  have hown : s.vm.findClass R_SS = some m.cls := findClass_of_methodNamed B.named
  have hlocks := B.notSynchronized
  subst hsz
  have hD := hD0.self (sz := s.heap.size)
  generalize hAe : va_A (cw cI cJ cG cZ a fi fl ai al) s.heap.size = A at hD ⊢
  have hA : ∀ q : Nat, s.heap.size ≤ q → A q := fun q h => by rw [← hAe]; exact Or.inr h
  have hS : va_S A s.heap s.heap [] := va_S.rf
  have hl := lv_entry ([.ref (a 0), .int p0] : List Value) (n := 2) (Nat.le_of_ble_eq_true rfl)
  rw [lg_entry_eq]
  generalize (lg_sl ([.ref (a 0), .int p0] : List Value) ++ List.replicate (2 - (lg_sl ([.ref (a 0), .int p0] : List Value)).length) Slot.unset).toArray = ls at hl ⊢
  have hl : lv_has ls 2 [(0, .ref (a 0)), (1, .int p0)] := hl
  unfold SS_add_w at hw
  obtain ⟨H, hH⟩ : ∃ H, H = s.heap := ⟨_, rfl⟩
  obtain ⟨locs, hlo⟩ : ∃ q : List Loc, q = [] := ⟨_, rfl⟩
  have hP : va_P (dC, dI) vwCl (cw cI cJ cG cZ a fi fl ai al) H := by rw [hH]; exact hP
  have hS : va_S A s.heap H locs := by rw [hH, hlo]; exact hS
  have key : W p l e (headSpec ws_SS_add ({ frames := 2, cells := 0, slots := 0, locals := 44 })).room s m ([.ref (a 0), .int p0] : List Value).toArray below meth c H locs 0 0 (MQ below (va_Qi (fun r (u : zw_Z) => (zw_k_fi_air fl al K) r u.1 u.2.1 u.2.2.1 u.2.2.2) (fun u t => zw_E (dC, dI) vwCl [(cI, .int), (cJ, .long), (cG, .array .int), (cZ, .boolean)] A (cw cI cJ cG cZ a u.1 u.2.1 u.2.2.1 u.2.2.2) t) A) ([.ref (a 0), .int p0] : List Value).toArray s 0 0 A) (F0 m 0 ls []) := by
    refine lv_aload_n hx hb d_SS_add_0 rfl (lv_at hl 0 rfl) ?_
    refine va_get (D := (dC, dI)) (ci := 0) (v := .ref (a 19)) (C := R_SS) (T := T_SS) (N := 9) hx hb ht in_SS hown hK hP 0 rfl rfl 0 (by decide) (ht _ kw_242) (fun _ h9 => h9) rfl d_SS_add_1 ?_
    refine lv_iload_n hx hb d_SS_add_4 rfl (lv_at hl 1 rfl) ?_
    refine vp_callSi (va_Run.run (va_runV (As := [.int p0]) (rest := []) ⟨hx, hb, hml, hown, hts⟩ (c_Gi_hasPart l dC dI cI cJ cG cZ a fi fl ai al p0 _ hw) (cwV 1 hts (zw_goodV kw_274 kw_275 kw_276 kw_5 kw_277) rfl rfl rfl hd_Gi_hasPart ⟨Nat.le_of_ble_eq_true rfl, Nat.le_of_ble_eq_true rfl⟩) (zw_preV (ci := 2) (q0 := 19) hK hN hP rfl rfl) rfl rfl hl.1 rfl (lv_room (Nat.le_of_ble_eq_true rfl)) d_SS_add_5 ⟨Nat.le_of_ble_eq_true rfl, Nat.le_of_ble_eq_true rfl⟩)) (fun r5 hw => ?_)
    refine lv_if_eq (tgt := 40) hx hb d_SS_add_8 (by decide) (fun c8 => ?_) (fun c8 => ?_)
    · have hw := zw_ite_t c8 hw
      refine lv_iconst (v := (0 : Int32)) hx hb d_SS_add_40 (by decide) ?_
      exact W.zret (v := (0 : Int32)) (ty := .boolean) hx hb hr rfl (fun t ht hW => ⟨⟨(0 : Int32), (fi, fl, ai, al), rfl, ⟨rfl, rfl, hw⟩, by rw [ht]; exact hP, va_K.moved hW.alike hK, hD⟩, hS.F ht⟩) hS.2.2 d_SS_add_41
    · have hw := zw_ite_f c8 hw
      refine lv_aload_n hx hb d_SS_add_11 rfl (lv_at hl 0 rfl) ?_
      refine va_get (D := (dC, dI)) (ci := 0) (v := .ref (a 4)) (C := R_SS) (T := T_SS) (N := 9) hx hb ht in_SS hown hK hP 0 rfl rfl 2 (by decide) (ht _ kw_244) (fun _ h9 => h9) rfl d_SS_add_12 ?_
      refine lv_iload_n hx hb d_SS_add_15 rfl (lv_at hl 1 rfl) ?_
      refine vp_callSi (va_Run.run (va_runV (As := [.int p0]) (rest := []) ⟨hx, hb, hml, hown, hts⟩ (c_Pl_takesPart l dC dI cI cJ cG cZ a fi fl ai al p0 _ hw) (cwV 1 hts (zw_goodV kw_357 kw_358 kw_359 kw_3 kw_360) rfl rfl rfl hd_Pl_takesPart ⟨Nat.le_of_ble_eq_true rfl, Nat.le_of_ble_eq_true rfl⟩) (zw_preV (ci := 3) (q0 := 4) hK hN hP rfl rfl) rfl rfl hl.1 rfl (lv_room (Nat.le_of_ble_eq_true rfl)) d_SS_add_16 ⟨Nat.le_of_ble_eq_true rfl, Nat.le_of_ble_eq_true rfl⟩)) (fun r16 hw => ?_)
      refine lv_if_eq (tgt := 40) hx hb d_SS_add_19 (by decide) (fun c19 => ?_) (fun c19 => ?_)
      · have hw := zw_ite_t c19 hw
        refine lv_iconst (v := (0 : Int32)) hx hb d_SS_add_40 (by decide) ?_
        exact W.zret (v := (0 : Int32)) (ty := .boolean) hx hb hr rfl (fun t ht hW => ⟨⟨(0 : Int32), (fi, fl, ai, al), rfl, ⟨rfl, rfl, hw⟩, by rw [ht]; exact hP, va_K.moved hW.alike hK, hD⟩, hS.F ht⟩) hS.2.2 d_SS_add_41
      · have hw := zw_ite_f c19 hw
        refine lv_aload_n hx hb d_SS_add_22 rfl (lv_at hl 0 rfl) ?_
        refine va_get (D := (dC, dI)) (ci := 0) (v := .ref (a 19)) (C := R_SS) (T := T_SS) (N := 9) hx hb ht in_SS hown hK hP 0 rfl rfl 0 (by decide) (ht _ kw_242) (fun _ h9 => h9) rfl d_SS_add_23 ?_
        refine lv_iload_n hx hb d_SS_add_26 rfl (lv_at hl 1 rfl) ?_
        refine lv_aload_n hx hb d_SS_add_27 rfl (lv_at hl 0 rfl) ?_
        refine va_get (D := (dC, dI)) (ci := 0) (v := .ref (a 4)) (C := R_SS) (T := T_SS) (N := 9) hx hb ht in_SS hown hK hP 0 rfl rfl 2 (by decide) (ht _ kw_244) (fun _ h9 => h9) rfl d_SS_add_28 ?_
        refine vp_callSi (va_Run.run (va_runV (As := []) (rest := [.int p0, .ref (a 19)]) ⟨hx, hb, hml, hown, hts⟩ (c_Pl_partBits l dC dI cI cJ cG cZ a fi fl ai al _ hw) (cwV 0 hts (zw_goodV kw_366 kw_367 kw_368 kw_3 kw_369) rfl rfl rfl hd_Pl_partBits ⟨Nat.le_of_ble_eq_true rfl, Nat.le_of_ble_eq_true rfl⟩) (zw_preV (ci := 3) (q0 := 4) hK hN hP rfl rfl) rfl rfl hl.1 rfl (lv_room (Nat.le_of_ble_eq_true rfl)) d_SS_add_31 ⟨Nat.le_of_ble_eq_true rfl, Nat.le_of_ble_eq_true rfl⟩)) (fun r31 hw => ?_)
        refine vp_callSi (va_Run.run (va_runV (As := [.int p0, .int r31]) (rest := []) ⟨hx, hb, hml, hown, hts⟩ (c_Gi_mayFollow l dC dI cI cJ cG cZ a fi fl ai al p0 r31 _ hw) (cwV 2 hts (zw_goodV kw_370 kw_371 kw_372 kw_5 kw_373) rfl rfl rfl hd_Gi_mayFollow ⟨Nat.le_of_ble_eq_true rfl, Nat.le_of_ble_eq_true rfl⟩) (zw_preV (ci := 2) (q0 := 19) hK hN hP rfl rfl) rfl rfl hl.1 rfl (lv_room (Nat.le_of_ble_eq_true rfl)) d_SS_add_34 ⟨Nat.le_of_ble_eq_true rfl, Nat.le_of_ble_eq_true rfl⟩)) (fun r34 hw => ?_)
        refine lv_if_ne (tgt := 42) hx hb d_SS_add_37 (by decide) (fun c37 => ?_) (fun c37 => ?_)
        · have hw := zw_ite_f c37 hw
          refine lv_aload_n hx hb d_SS_add_42 rfl (lv_at hl 0 rfl) ?_
          refine va_get (D := (dC, dI)) (ci := 0) (v := .ref (a 4)) (C := R_SS) (T := T_SS) (N := 9) hx hb ht in_SS hown hK hP 0 rfl rfl 2 (by decide) (ht _ kw_244) (fun _ h9 => h9) rfl d_SS_add_43 ?_
          refine lv_iload_n hx hb d_SS_add_46 rfl (lv_at hl 1 rfl) ?_
          refine zw_cv (va_runV (As := [.int p0]) (rest := []) ⟨hx, hb, hml, hown, hts⟩ (c_Pl_putPart l dC dI cI cJ cG cZ a H.size fi fl ai al p0 _ hw) (cwV 1 hts (zw_goodV kw_374 kw_375 kw_376 kw_3 kw_377) rfl rfl rfl hd_Pl_putPart ⟨Nat.le_of_ble_eq_true rfl, Nat.le_of_ble_eq_true rfl⟩) (zw_preVw (ci := 3) (q0 := 4) hK hN hP hD rfl rfl) rfl rfl hl.1 rfl (lv_room (Nat.le_of_ble_eq_true rfl)) d_SS_add_47 ⟨Nat.le_of_ble_eq_true rfl, Nat.le_of_ble_eq_true rfl⟩) hD hS hA (fun fi_47 fl_47 ai_47 al_47 H locs hw hP hD hS => ?_)
          obtain ⟨rfl, rfl, hw⟩ := hw
          refine lv_iconst (v := (1 : Int32)) hx hb d_SS_add_50 (by decide) ?_
          exact W.zret (v := (1 : Int32)) (ty := .boolean) hx hb hr rfl (fun t ht hW => ⟨⟨(1 : Int32), (fi_47, fl, ai_47, al), rfl, ⟨rfl, rfl, hw⟩, by rw [ht]; exact hP, va_K.moved hW.alike hK, hD⟩, hS.F ht⟩) hS.2.2 d_SS_add_51
        · have hw := zw_ite_t c37 hw
          refine lv_iconst (v := (0 : Int32)) hx hb d_SS_add_40 (by decide) ?_
          exact W.zret (v := (0 : Int32)) (ty := .boolean) hx hb hr rfl (fun t ht hW => ⟨⟨(0 : Int32), (fi, fl, ai, al), rfl, ⟨rfl, rfl, hw⟩, by rw [ht]; exact hP, va_K.moved hW.alike hK, hD⟩, hS.F ht⟩) hS.2.2 d_SS_add_41
  rw [hH, hlo] at key
  exact key
def SS_load_w (fi : Nat → Int32) (fl : Nat → Int64) (ai : Nat → Nat → Int32) (al : Nat → Nat → Int64) (p0 : Int32) (p1 : Int32) (K : Int32 → (Nat → Int32) → (Nat → Nat → Int32) → Prop) : Prop :=
  Pl_hasRoom_w fi fl ai al  (fun (r4 : Int32) =>
  if r4 = 0 then (
    K (0 : Int32) fi ai)
  else (
    Gi_hasPart_w fi fl ai al p0 (fun (r15 : Int32) =>
    if r15 = 0 then (
      K (0 : Int32) fi ai)
    else (
      Pl_placeOf_w fi fl ai al p0 (fun (r26 : Int32) =>
      if r26 < 0 then (
        K (0 : Int32) fi ai)
      else (
        SS_within_w p1 (-1000 : Int32) (1000 : Int32) (fun (r39 : Int32) =>
        if r39 = 0 then (
          K (0 : Int32) fi ai)
        else (
          Pl_putAct_w fi fl ai al (1 : Int32) p0 p1 (fun (fi_54 : Nat → Int32) (ai_54 : Nat → Nat → Int32) =>
          K (1 : Int32) fi_54 ai_54)))))))))
theorem d_SS_load_0 : decode b_SS_load 0 = .ok (.aload_n 0, 1) := by decide +kernel
theorem d_SS_load_1 : decode b_SS_load 1 = .ok (.getfield 19, 3) := by decide +kernel
theorem d_SS_load_4 : decode b_SS_load 4 = .ok (.invokevirtual 146, 3) := by decide +kernel
theorem d_SS_load_7 : decode b_SS_load 7 = .ok (.ifCond .eq (38), 3) := by decide +kernel
theorem d_SS_load_10 : decode b_SS_load 10 = .ok (.aload_n 0, 1) := by decide +kernel
theorem d_SS_load_11 : decode b_SS_load 11 = .ok (.getfield 55, 3) := by decide +kernel
theorem d_SS_load_14 : decode b_SS_load 14 = .ok (.iload_n 1, 1) := by decide +kernel
theorem d_SS_load_15 : decode b_SS_load 15 = .ok (.invokevirtual 77, 3) := by decide +kernel
theorem d_SS_load_18 : decode b_SS_load 18 = .ok (.ifCond .eq (27), 3) := by decide +kernel
theorem d_SS_load_21 : decode b_SS_load 21 = .ok (.aload_n 0, 1) := by decide +kernel
theorem d_SS_load_22 : decode b_SS_load 22 = .ok (.getfield 19, 3) := by decide +kernel
theorem d_SS_load_25 : decode b_SS_load 25 = .ok (.iload_n 1, 1) := by decide +kernel
theorem d_SS_load_26 : decode b_SS_load 26 = .ok (.invokevirtual 117, 3) := by decide +kernel
theorem d_SS_load_29 : decode b_SS_load 29 = .ok (.ifCond .lt (16), 3) := by decide +kernel
theorem d_SS_load_32 : decode b_SS_load 32 = .ok (.iload_n 2, 1) := by decide +kernel
theorem d_SS_load_33 : decode b_SS_load 33 = .ok (.sipush (-1000), 3) := by decide +kernel
theorem d_SS_load_36 : decode b_SS_load 36 = .ok (.sipush (1000), 3) := by decide +kernel
theorem d_SS_load_39 : decode b_SS_load 39 = .ok (.invokestatic 81, 3) := by decide +kernel
theorem d_SS_load_42 : decode b_SS_load 42 = .ok (.ifCond .ne (5), 3) := by decide +kernel
theorem d_SS_load_45 : decode b_SS_load 45 = .ok (.iconst 0, 1) := by decide +kernel
theorem d_SS_load_46 : decode b_SS_load 46 = .ok (.ireturn, 1) := by decide +kernel
theorem d_SS_load_47 : decode b_SS_load 47 = .ok (.aload_n 0, 1) := by decide +kernel
theorem d_SS_load_48 : decode b_SS_load 48 = .ok (.getfield 19, 3) := by decide +kernel
theorem d_SS_load_51 : decode b_SS_load 51 = .ok (.iconst 1, 1) := by decide +kernel
theorem d_SS_load_52 : decode b_SS_load 52 = .ok (.iload_n 1, 1) := by decide +kernel
theorem d_SS_load_53 : decode b_SS_load 53 = .ok (.iload_n 2, 1) := by decide +kernel
theorem d_SS_load_54 : decode b_SS_load 54 = .ok (.invokevirtual 150, 3) := by decide +kernel
theorem d_SS_load_57 : decode b_SS_load 57 = .ok (.iconst 1, 1) := by decide +kernel
theorem d_SS_load_58 : decode b_SS_load 58 = .ok (.ireturn, 1) := by decide +kernel
set_option maxHeartbeats 4000000 in
set_option maxRecDepth 100000 in
theorem c_SS_load (l : Launch) (dC : Nat → ClassId) (dI : Nat → Nat → Nat) (cI cJ cG cZ : ClassId) (a : Nat → Nat) (sz : Nat) (fi : Nat → Int32) (fl : Nat → Int64) (ai : Nat → Nat → Int32) (al : Nat → Nat → Int64) (p0 : Int32) (p1 : Int32) (K : Int32 → (Nat → Int32) → (Nat → Nat → Int32) → Prop) (hw : SS_load_w fi fl ai al p0 p1 K) : Met l y_SS_load ws_SS_load ({ frames := 2, cells := 0, slots := 0, locals := 43 }) (va_Pc [.ref (a 0), .int p0, .int p1] (zw_Bw (dC, dI) vwCl [(cI, .int), (cJ, .long), (cG, .array .int), (cZ, .boolean)] (cw cI cJ cG cZ a fi fl ai al) sz)) (va_Qi (fun r (u : zw_Z) => (zw_k_fi_air fl al K) r u.1 u.2.1 u.2.2.1 u.2.2.2) (fun u t => zw_E (dC, dI) vwCl [(cI, .int), (cJ, .long), (cG, .array .int), (cZ, .boolean)] (va_A (cw cI cJ cG cZ a fi fl ai al) sz) (cw cI cJ cG cZ a u.1 u.2.1 u.2.2.1 u.2.2.2) t) (va_A (cw cI cJ cG cZ a fi fl ai al) sz)) 0 0 (va_A (cw cI cJ cG cZ a fi fl ai al) sz) := by
  refine Met.ofW (cc := b_SS_load) (maxL := 3) (ret := (Option.some FieldType.boolean)) (by decide) rfl ?_
  intro p e s m args below meth c s₁ B hml hv
  obtain ⟨rfl, hsz, hP, hK, hD0, hN⟩ := hv
  have hx := B.exec
  have hb := B.bytes
  have hr := B.returns
  have hts := atoms_spec (ws := ws_SS_load) B.pre
  have ht : ∀ w ∈ zw_tbl, w.before _ s = true := fun w h => hts w (List.mem_cons_of_mem _ h)
  have hown : s.vm.findClass R_SS = some m.cls := findClass_of_methodNamed B.named
  have hlocks := B.notSynchronized
  subst hsz
  have hD := hD0.self (sz := s.heap.size)
  generalize hAe : va_A (cw cI cJ cG cZ a fi fl ai al) s.heap.size = A at hD ⊢
  have hA : ∀ q : Nat, s.heap.size ≤ q → A q := fun q h => by rw [← hAe]; exact Or.inr h
  have hS : va_S A s.heap s.heap [] := va_S.rf
  have hl := lv_entry ([.ref (a 0), .int p0, .int p1] : List Value) (n := 3) (Nat.le_of_ble_eq_true rfl)
  rw [lg_entry_eq]
  generalize (lg_sl ([.ref (a 0), .int p0, .int p1] : List Value) ++ List.replicate (3 - (lg_sl ([.ref (a 0), .int p0, .int p1] : List Value)).length) Slot.unset).toArray = ls at hl ⊢
  have hl : lv_has ls 3 [(0, .ref (a 0)), (1, .int p0), (2, .int p1)] := hl
  unfold SS_load_w at hw
  obtain ⟨H, hH⟩ : ∃ H, H = s.heap := ⟨_, rfl⟩
  obtain ⟨locs, hlo⟩ : ∃ q : List Loc, q = [] := ⟨_, rfl⟩
  have hP : va_P (dC, dI) vwCl (cw cI cJ cG cZ a fi fl ai al) H := by rw [hH]; exact hP
  have hS : va_S A s.heap H locs := by rw [hH, hlo]; exact hS
  have key : W p l e (headSpec ws_SS_load ({ frames := 2, cells := 0, slots := 0, locals := 43 })).room s m ([.ref (a 0), .int p0, .int p1] : List Value).toArray below meth c H locs 0 0 (MQ below (va_Qi (fun r (u : zw_Z) => (zw_k_fi_air fl al K) r u.1 u.2.1 u.2.2.1 u.2.2.2) (fun u t => zw_E (dC, dI) vwCl [(cI, .int), (cJ, .long), (cG, .array .int), (cZ, .boolean)] A (cw cI cJ cG cZ a u.1 u.2.1 u.2.2.1 u.2.2.2) t) A) ([.ref (a 0), .int p0, .int p1] : List Value).toArray s 0 0 A) (F0 m 0 ls []) := by
    refine lv_aload_n hx hb d_SS_load_0 rfl (lv_at hl 0 rfl) ?_
    refine va_get (D := (dC, dI)) (ci := 0) (v := .ref (a 4)) (C := R_SS) (T := T_SS) (N := 9) hx hb ht in_SS hown hK hP 0 rfl rfl 2 (by decide) (ht _ kw_244) (fun _ h9 => h9) rfl d_SS_load_1 ?_
    refine vp_callSi (va_Run.run (va_runV (As := []) (rest := []) ⟨hx, hb, hml, hown, hts⟩ (c_Pl_hasRoom l dC dI cI cJ cG cZ a fi fl ai al _ hw) (cwV 0 hts (zw_goodV kw_386 kw_362 kw_363 kw_3 kw_364) rfl rfl rfl hd_Pl_hasRoom ⟨Nat.le_of_ble_eq_true rfl, Nat.le_of_ble_eq_true rfl⟩) (zw_preV (ci := 3) (q0 := 4) hK hN hP rfl rfl) rfl rfl hl.1 rfl (lv_room (Nat.le_of_ble_eq_true rfl)) d_SS_load_4 ⟨Nat.le_of_ble_eq_true rfl, Nat.le_of_ble_eq_true rfl⟩)) (fun r4 hw => ?_)
    refine lv_if_eq (tgt := 45) hx hb d_SS_load_7 (by decide) (fun c7 => ?_) (fun c7 => ?_)
    · have hw := zw_ite_t c7 hw
      refine lv_iconst (v := (0 : Int32)) hx hb d_SS_load_45 (by decide) ?_
      exact W.zret (v := (0 : Int32)) (ty := .boolean) hx hb hr rfl (fun t ht hW => ⟨⟨(0 : Int32), (fi, fl, ai, al), rfl, ⟨rfl, rfl, hw⟩, by rw [ht]; exact hP, va_K.moved hW.alike hK, hD⟩, hS.F ht⟩) hS.2.2 d_SS_load_46
    · have hw := zw_ite_f c7 hw
      refine lv_aload_n hx hb d_SS_load_10 rfl (lv_at hl 0 rfl) ?_
      refine va_get (D := (dC, dI)) (ci := 0) (v := .ref (a 19)) (C := R_SS) (T := T_SS) (N := 9) hx hb ht in_SS hown hK hP 0 rfl rfl 0 (by decide) (ht _ kw_242) (fun _ h9 => h9) rfl d_SS_load_11 ?_
      refine lv_iload_n hx hb d_SS_load_14 rfl (lv_at hl 1 rfl) ?_
      refine vp_callSi (va_Run.run (va_runV (As := [.int p0]) (rest := []) ⟨hx, hb, hml, hown, hts⟩ (c_Gi_hasPart l dC dI cI cJ cG cZ a fi fl ai al p0 _ hw) (cwV 1 hts (zw_goodV kw_274 kw_275 kw_276 kw_5 kw_277) rfl rfl rfl hd_Gi_hasPart ⟨Nat.le_of_ble_eq_true rfl, Nat.le_of_ble_eq_true rfl⟩) (zw_preV (ci := 2) (q0 := 19) hK hN hP rfl rfl) rfl rfl hl.1 rfl (lv_room (Nat.le_of_ble_eq_true rfl)) d_SS_load_15 ⟨Nat.le_of_ble_eq_true rfl, Nat.le_of_ble_eq_true rfl⟩)) (fun r15 hw => ?_)
      refine lv_if_eq (tgt := 45) hx hb d_SS_load_18 (by decide) (fun c18 => ?_) (fun c18 => ?_)
      · have hw := zw_ite_t c18 hw
        refine lv_iconst (v := (0 : Int32)) hx hb d_SS_load_45 (by decide) ?_
        exact W.zret (v := (0 : Int32)) (ty := .boolean) hx hb hr rfl (fun t ht hW => ⟨⟨(0 : Int32), (fi, fl, ai, al), rfl, ⟨rfl, rfl, hw⟩, by rw [ht]; exact hP, va_K.moved hW.alike hK, hD⟩, hS.F ht⟩) hS.2.2 d_SS_load_46
      · have hw := zw_ite_f c18 hw
        refine lv_aload_n hx hb d_SS_load_21 rfl (lv_at hl 0 rfl) ?_
        refine va_get (D := (dC, dI)) (ci := 0) (v := .ref (a 4)) (C := R_SS) (T := T_SS) (N := 9) hx hb ht in_SS hown hK hP 0 rfl rfl 2 (by decide) (ht _ kw_244) (fun _ h9 => h9) rfl d_SS_load_22 ?_
        refine lv_iload_n hx hb d_SS_load_25 rfl (lv_at hl 1 rfl) ?_
        refine vp_callSi (va_Run.run (va_runV (As := [.int p0]) (rest := []) ⟨hx, hb, hml, hown, hts⟩ (c_Pl_placeOf l dC dI cI cJ cG cZ a fi fl ai al p0 _ hw) (cwV 1 hts (zw_goodV kw_322 kw_323 kw_324 kw_3 kw_325) rfl rfl rfl hd_Pl_placeOf ⟨Nat.le_of_ble_eq_true rfl, Nat.le_of_ble_eq_true rfl⟩) (zw_preV (ci := 3) (q0 := 4) hK hN hP rfl rfl) rfl rfl hl.1 rfl (lv_room (Nat.le_of_ble_eq_true rfl)) d_SS_load_26 ⟨Nat.le_of_ble_eq_true rfl, Nat.le_of_ble_eq_true rfl⟩)) (fun r26 hw => ?_)
        refine lv_if_lt (tgt := 45) hx hb d_SS_load_29 (by decide) (fun c29 => ?_) (fun c29 => ?_)
        · have hw := zw_ite_t c29 hw
          refine lv_iconst (v := (0 : Int32)) hx hb d_SS_load_45 (by decide) ?_
          exact W.zret (v := (0 : Int32)) (ty := .boolean) hx hb hr rfl (fun t ht hW => ⟨⟨(0 : Int32), (fi, fl, ai, al), rfl, ⟨rfl, rfl, hw⟩, by rw [ht]; exact hP, va_K.moved hW.alike hK, hD⟩, hS.F ht⟩) hS.2.2 d_SS_load_46
        · have hw := zw_ite_f c29 hw
          refine lv_iload_n hx hb d_SS_load_32 rfl (lv_at hl 2 rfl) ?_
          refine lv_sipush (v := (-1000 : Int32)) hx hb d_SS_load_33 (by decide) ?_
          refine lv_sipush (v := (1000 : Int32)) hx hb d_SS_load_36 (by decide) ?_
          refine vp_callSi (va_Run.run (va_runS (As := [.int p1, .int (-1000 : Int32), .int (1000 : Int32)]) (rest := []) ⟨hx, hb, hml, hown, hts⟩ (c_SS_within l p1 (-1000 : Int32) (1000 : Int32) _ hw) (va_cwS 3 hts (zw_goodS kw_281 kw_279 kw_1 kw_280) rfl rfl rfl hd_SS_within.2 ⟨Nat.le_of_ble_eq_true rfl, Nat.le_of_ble_eq_true rfl⟩) zw_preS0 rfl rfl hl.1 rfl (lv_room (Nat.le_of_ble_eq_true rfl)) d_SS_load_39 ⟨Nat.le_of_ble_eq_true rfl, Nat.le_of_ble_eq_true rfl⟩)) (fun r39 hw => ?_)
          refine lv_if_ne (tgt := 47) hx hb d_SS_load_42 (by decide) (fun c42 => ?_) (fun c42 => ?_)
          · have hw := zw_ite_f c42 hw
            refine lv_aload_n hx hb d_SS_load_47 rfl (lv_at hl 0 rfl) ?_
            refine va_get (D := (dC, dI)) (ci := 0) (v := .ref (a 4)) (C := R_SS) (T := T_SS) (N := 9) hx hb ht in_SS hown hK hP 0 rfl rfl 2 (by decide) (ht _ kw_244) (fun _ h9 => h9) rfl d_SS_load_48 ?_
            refine lv_iconst (v := (1 : Int32)) hx hb d_SS_load_51 (by decide) ?_
            refine lv_iload_n hx hb d_SS_load_52 rfl (lv_at hl 1 rfl) ?_
            refine lv_iload_n hx hb d_SS_load_53 rfl (lv_at hl 2 rfl) ?_
            refine zw_cv (va_runV (As := [.int (1 : Int32), .int p0, .int p1]) (rest := []) ⟨hx, hb, hml, hown, hts⟩ (c_Pl_putAct l dC dI cI cJ cG cZ a H.size fi fl ai al (1 : Int32) p0 p1 _ hw) (cwV 3 hts (zw_goodV kw_387 kw_379 kw_380 kw_3 kw_381) rfl rfl rfl hd_Pl_putAct ⟨Nat.le_of_ble_eq_true rfl, Nat.le_of_ble_eq_true rfl⟩) (zw_preVw (ci := 3) (q0 := 4) hK hN hP hD rfl rfl) rfl rfl hl.1 rfl (lv_room (Nat.le_of_ble_eq_true rfl)) d_SS_load_54 ⟨Nat.le_of_ble_eq_true rfl, Nat.le_of_ble_eq_true rfl⟩) hD hS hA (fun fi_54 fl_54 ai_54 al_54 H locs hw hP hD hS => ?_)
            obtain ⟨rfl, rfl, hw⟩ := hw
            refine lv_iconst (v := (1 : Int32)) hx hb d_SS_load_57 (by decide) ?_
            exact W.zret (v := (1 : Int32)) (ty := .boolean) hx hb hr rfl (fun t ht hW => ⟨⟨(1 : Int32), (fi_54, fl, ai_54, al), rfl, ⟨rfl, rfl, hw⟩, by rw [ht]; exact hP, va_K.moved hW.alike hK, hD⟩, hS.F ht⟩) hS.2.2 d_SS_load_58
          · have hw := zw_ite_t c42 hw
            refine lv_iconst (v := (0 : Int32)) hx hb d_SS_load_45 (by decide) ?_
            exact W.zret (v := (0 : Int32)) (ty := .boolean) hx hb hr rfl (fun t ht hW => ⟨⟨(0 : Int32), (fi, fl, ai, al), rfl, ⟨rfl, rfl, hw⟩, by rw [ht]; exact hP, va_K.moved hW.alike hK, hD⟩, hS.F ht⟩) hS.2.2 d_SS_load_46
  rw [hH, hlo] at key
  exact key
