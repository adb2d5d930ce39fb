def Mo_in_w (p0 : Int64) (p1 : Int64) (p2 : Int64) (K : Int32 → Prop) : Prop :=
  if p0 < p1 then (
    K (0 : Int32))
  else (
    if p2 < p0 then (
      K (0 : Int32))
    else (
      K (1 : Int32)))
theorem d_Mo_in_0 : decode b_Mo_in 0 = .ok (.lload_n 0, 1) := by decide +kernel
theorem d_Mo_in_1 : decode b_Mo_in 1 = .ok (.lload_n 2, 1) := by decide +kernel
theorem d_Mo_in_2 : decode b_Mo_in 2 = .ok (.lcmp, 1) := by decide +kernel
theorem d_Mo_in_3 : decode b_Mo_in 3 = .ok (.ifCond .lt (14), 3) := by decide +kernel
theorem d_Mo_in_6 : decode b_Mo_in 6 = .ok (.lload_n 0, 1) := by decide +kernel
theorem d_Mo_in_7 : decode b_Mo_in 7 = .ok (.lload 4, 2) := by decide +kernel
theorem d_Mo_in_9 : decode b_Mo_in 9 = .ok (.lcmp, 1) := by decide +kernel
theorem d_Mo_in_10 : decode b_Mo_in 10 = .ok (.ifCond .gt (7), 3) := by decide +kernel
theorem d_Mo_in_13 : decode b_Mo_in 13 = .ok (.iconst 1, 1) := by decide +kernel
theorem d_Mo_in_14 : decode b_Mo_in 14 = .ok (.goto (4), 3) := by decide +kernel
theorem d_Mo_in_17 : decode b_Mo_in 17 = .ok (.iconst 0, 1) := by decide +kernel
theorem d_Mo_in_18 : decode b_Mo_in 18 = .ok (.ireturn, 1) := by decide +kernel
set_option maxHeartbeats 4000000 in
set_option maxRecDepth 100000 in
theorem c_Mo_in (l : Launch) (p0 : Int64) (p1 : Int64) (p2 : Int64) (K : Int32 → Prop) (hw : Mo_in_w p0 p1 p2 K) : Met l y_Mo_in ws_Mo_in ({ frames := 0, cells := 0, slots := 0, locals := 0 }) (va_Pc [.long p0, .long p1, .long p2] (fun _ => True)) (vp_Si K) 0 0 (fun _ => False) := by
  refine Met.ofW (cc := b_Mo_in) (maxL := 6) (ret := (Option.some FieldType.boolean)) (by decide) rfl ?_
  intro p e s m args below meth c s₁ B hml hv
  obtain ⟨rfl, -⟩ := hv
  have hx := B.exec
  have hb := B.bytes
  have hr := B.returns
  have hts := atoms_spec (ws := ws_Mo_in) B.pre
  have ht : ∀ w ∈ zw_tbl, w.before _ s = true := fun w h => hts w (List.mem_cons_of_mem _ h)
  have hown : s.vm.findClass R_Mo = some m.cls := findClass_of_methodNamed B.named
  have hlocks := B.notSynchronized
  have hl := lv_entry ([.long p0, .long p1, .long p2] : List Value) (n := 6) (Nat.le_of_ble_eq_true rfl)
  rw [lg_entry_eq]
  generalize (lg_sl ([.long p0, .long p1, .long p2] : List Value) ++ List.replicate (6 - (lg_sl ([.long p0, .long p1, .long p2] : List Value)).length) Slot.unset).toArray = ls at hl ⊢
  have hl : lv_has ls 6 [(0, .long p0), (2, .long p1), (4, .long p2)] := hl
  unfold Mo_in_w at hw
  refine lv_lload_n hx hb d_Mo_in_0 rfl (lv_at hl 0 rfl) ?_
  refine lv_lload_n hx hb d_Mo_in_1 rfl (lv_at hl 1 rfl) ?_
  refine W.lcmp hx hb d_Mo_in_2 ?_
  refine lv_if_lt (tgt := 17) hx hb d_Mo_in_3 (by decide) (fun c3 => ?_) (fun c3 => ?_)
  · have hw := zw_ite_t (zw_lg_lt.mp c3) hw
    refine lv_iconst (v := (0 : Int32)) hx hb d_Mo_in_17 (by decide) ?_
    exact W.zret (v := (0 : Int32)) (ty := .boolean) hx hb hr rfl (fun t ht hW => ⟨(0 : Int32), rfl, hw, ht⟩) t_nil d_Mo_in_18
  · have hw := zw_ite_f (mt zw_lg_lt.mpr c3) hw
    refine lv_lload_n hx hb d_Mo_in_6 rfl (lv_at hl 0 rfl) ?_
    refine lv_lload hx hb d_Mo_in_7 (lv_at hl 2 rfl) ?_
    refine W.lcmp hx hb d_Mo_in_9 ?_
    refine lv_if_gt (tgt := 17) hx hb d_Mo_in_10 (by decide) (fun c10 => ?_) (fun c10 => ?_)
    · have hw := zw_ite_t (zw_lg_gt.mp c10) hw
      refine lv_iconst (v := (0 : Int32)) hx hb d_Mo_in_17 (by decide) ?_
      exact W.zret (v := (0 : Int32)) (ty := .boolean) hx hb hr rfl (fun t ht hW => ⟨(0 : Int32), rfl, hw, ht⟩) t_nil d_Mo_in_18
    · have hw := zw_ite_f (mt zw_lg_gt.mpr c10) hw
      refine lv_iconst (v := (1 : Int32)) hx hb d_Mo_in_13 (by decide) ?_
      refine lv_goto (tgt := 18) hx hb d_Mo_in_14 (by decide) ?_
      exact W.zret (v := (1 : Int32)) (ty := .boolean) hx hb hr rfl (fun t ht hW => ⟨(1 : Int32), rfl, hw, ht⟩) t_nil d_Mo_in_18
def Mo_isPart_w (fi : Nat → Int32) (fl : Nat → Int64) (ai : Nat → Nat → Int32) (al : Nat → Nat → Int64) (p0 : Int32) (K : Int32 → Prop) : Prop :=
  Mo_in_w p0.toInt64 (0 : Int64) (((fi 0) - (1 : Int32)).toInt64) (fun (r10 : Int32) =>
  zw_bool r10 ∧ (K r10))
theorem d_Mo_isPart_0 : decode b_Mo_isPart 0 = .ok (.iload_n 1, 1) := by decide +kernel
theorem d_Mo_isPart_1 : decode b_Mo_isPart 1 = .ok (.i2l, 1) := by decide +kernel
theorem d_Mo_isPart_2 : decode b_Mo_isPart 2 = .ok (.lconst 0, 1) := by decide +kernel
theorem d_Mo_isPart_3 : decode b_Mo_isPart 3 = .ok (.aload_n 0, 1) := by decide +kernel
theorem d_Mo_isPart_4 : decode b_Mo_isPart 4 = .ok (.getfield 100, 3) := by decide +kernel
theorem d_Mo_isPart_7 : decode b_Mo_isPart 7 = .ok (.iconst 1, 1) := by decide +kernel
theorem d_Mo_isPart_8 : decode b_Mo_isPart 8 = .ok (.isub, 1) := by decide +kernel
theorem d_Mo_isPart_9 : decode b_Mo_isPart 9 = .ok (.i2l, 1) := by decide +kernel
theorem d_Mo_isPart_10 : decode b_Mo_isPart 10 = .ok (.invokestatic 103, 3) := by decide +kernel
theorem d_Mo_isPart_13 : decode b_Mo_isPart 13 = .ok (.ireturn, 1) := by decide +kernel
set_option maxHeartbeats 4000000 in
set_option maxRecDepth 100000 in
theorem c_Mo_isPart (l : Launch) (dC : Nat → ClassId) (dI : Nat → Nat → Nat) (cI cJ cG cZ : ClassId) (a : Nat → Nat) (fi : Nat → Int32) (fl : Nat → Int64) (ai : Nat → Nat → Int32) (al : Nat → Nat → Int64) (p0 : Int32) (K : Int32 → Prop) (hw : Mo_isPart_w fi fl ai al p0 K) : Met l y_Mo_isPart ws_Mo_isPart ({ frames := 1, cells := 0, slots := 0, locals := 25 }) (va_Pc [.ref (a 0), .int p0] (zw_B (dC, dI) vwCl [(cI, .int), (cJ, .long), (cG, .array .int), (cZ, .boolean)] (mw cI cJ cG cZ a fi fl ai al))) (vp_Si K) 0 0 (fun _ => False) := by
  refine Met.ofW (cc := b_Mo_isPart) (maxL := 2) (ret := (Option.some FieldType.boolean)) (by decide) rfl ?_
  intro p e s m args below meth c s₁ B hml hv
  obtain ⟨rfl, hP, hK, hN⟩ := hv
  have hx := B.exec
  have hb := B.bytes
  have hr := B.returns
  have hts := atoms_spec (ws := ws_Mo_isPart) B.pre
  have ht : ∀ w ∈ zw_tbl, w.before _ s = true := fun w h => hts w (List.mem_cons_of_mem _ h)
  have hown : s.vm.findClass R_Mo = some m.cls := findClass_of_methodNamed B.named
  have hlocks := B.notSynchronized
  have hl := lv_entry ([.ref (a 0), .int p0] : List Value) (n := 2) (Nat.le_of_ble_eq_true rfl)
  rw [lg_entry_eq]
  generalize (lg_sl ([.ref (a 0), .int p0] : List Value) ++ List.replicate (2 - (lg_sl ([.ref (a 0), .int p0] : List Value)).length) Slot.unset).toArray = ls at hl ⊢
  have hl : lv_has ls 2 [(0, .ref (a 0)), (1, .int p0)] := hl
  unfold Mo_isPart_w at hw
  refine lv_iload_n hx hb d_Mo_isPart_0 rfl (lv_at hl 1 rfl) ?_
  refine lv_i2l hx hb d_Mo_isPart_1 rfl ?_
  refine lv_lconst (v := (0 : Int64)) hx hb d_Mo_isPart_2 (by decide) ?_
  refine lv_aload_n hx hb d_Mo_isPart_3 rfl (lv_at hl 0 rfl) ?_
  refine va_get (D := (dC, dI)) (ci := 7) (v := .int (fi 0)) (C := R_Mo) (T := T_Mo) (N := 36) hx hb ht in_Mo hown hK hP 0 rfl rfl 0 (by decide) (ht _ kw_613) (fun _ h9 => h9) rfl d_Mo_isPart_4 ?_
  refine lv_iconst (v := (1 : Int32)) hx hb d_Mo_isPart_7 (by decide) ?_
  refine lv_isub hx hb d_Mo_isPart_8 ?_
  refine lv_i2l hx hb d_Mo_isPart_9 rfl ?_
  refine vp_callSi (va_Run.run (va_runS (As := [.long p0.toInt64, .long (0 : Int64), .long ((fi 0) - (1 : Int32)).toInt64]) (rest := []) ⟨hx, hb, hml, hown, hts⟩ (c_Mo_in l p0.toInt64 (0 : Int64) (((fi 0) - (1 : Int32)).toInt64) _ hw) (va_cwS 3 hts (zw_goodS kw_731 kw_732 kw_9 kw_733) rfl rfl rfl hd_Mo_in.2 ⟨Nat.le_of_ble_eq_true rfl, Nat.le_of_ble_eq_true rfl⟩) zw_preS0 rfl rfl hl.1 rfl (lv_room (Nat.le_of_ble_eq_true rfl)) d_Mo_isPart_10 ⟨Nat.le_of_ble_eq_true rfl, Nat.le_of_ble_eq_true rfl⟩)) (fun r10 hw => ?_)
  obtain ⟨hz, hw⟩ := hw
  exact W.zret (v := r10) (ty := .boolean) hx hb hr (zw_bool_n hz) (fun t ht hW => ⟨r10, rfl, hw, ht⟩) t_nil d_Mo_isPart_13
def Mo_isStage_w (fi : Nat → Int32) (fl : Nat → Int64) (ai : Nat → Nat → Int32) (al : Nat → Nat → Int64) (p0 : Int32) (K : Int32 → Prop) : Prop :=
  Mo_in_w p0.toInt64 (0 : Int64) (((fi 2) - (1 : Int32)).toInt64) (fun (r10 : Int32) =>
  zw_bool r10 ∧ (K r10))
theorem d_Mo_isStage_0 : decode b_Mo_isStage 0 = .ok (.iload_n 1, 1) := by decide +kernel
theorem d_Mo_isStage_1 : decode b_Mo_isStage 1 = .ok (.i2l, 1) := by decide +kernel
theorem d_Mo_isStage_2 : decode b_Mo_isStage 2 = .ok (.lconst 0, 1) := by decide +kernel
theorem d_Mo_isStage_3 : decode b_Mo_isStage 3 = .ok (.aload_n 0, 1) := by decide +kernel
theorem d_Mo_isStage_4 : decode b_Mo_isStage 4 = .ok (.getfield 107, 3) := by decide +kernel
theorem d_Mo_isStage_7 : decode b_Mo_isStage 7 = .ok (.iconst 1, 1) := by decide +kernel
theorem d_Mo_isStage_8 : decode b_Mo_isStage 8 = .ok (.isub, 1) := by decide +kernel
theorem d_Mo_isStage_9 : decode b_Mo_isStage 9 = .ok (.i2l, 1) := by decide +kernel
theorem d_Mo_isStage_10 : decode b_Mo_isStage 10 = .ok (.invokestatic 103, 3) := by decide +kernel
theorem d_Mo_isStage_13 : decode b_Mo_isStage 13 = .ok (.ireturn, 1) := by decide +kernel
set_option maxHeartbeats 4000000 in
set_option maxRecDepth 100000 in
theorem c_Mo_isStage (l : Launch) (dC : Nat → ClassId) (dI : Nat → Nat → Nat) (cI cJ cG cZ : ClassId) (a : Nat → Nat) (fi : Nat → Int32) (fl : Nat → Int64) (ai : Nat → Nat → Int32) (al : Nat → Nat → Int64) (p0 : Int32) (K : Int32 → Prop) (hw : Mo_isStage_w fi fl ai al p0 K) : Met l y_Mo_isStage ws_Mo_isStage ({ frames := 1, cells := 0, slots := 0, locals := 25 }) (va_Pc [.ref (a 0), .int p0] (zw_B (dC, dI) vwCl [(cI, .int), (cJ, .long), (cG, .array .int), (cZ, .boolean)] (mw cI cJ cG cZ a fi fl ai al))) (vp_Si K) 0 0 (fun _ => False) := by
  refine Met.ofW (cc := b_Mo_isStage) (maxL := 2) (ret := (Option.some FieldType.boolean)) (by decide) rfl ?_
  intro p e s m args below meth c s₁ B hml hv
  obtain ⟨rfl, hP, hK, hN⟩ := hv
  have hx := B.exec
  have hb := B.bytes
  have hr := B.returns
  have hts := atoms_spec (ws := ws_Mo_isStage) B.pre
  have ht : ∀ w ∈ zw_tbl, w.before _ s = true := fun w h => hts w (List.mem_cons_of_mem _ h)
  have hown : s.vm.findClass R_Mo = some m.cls := findClass_of_methodNamed B.named
  have hlocks := B.notSynchronized
  have hl := lv_entry ([.ref (a 0), .int p0] : List Value) (n := 2) (Nat.le_of_ble_eq_true rfl)
  rw [lg_entry_eq]
  generalize (lg_sl ([.ref (a 0), .int p0] : List Value) ++ List.replicate (2 - (lg_sl ([.ref (a 0), .int p0] : List Value)).length) Slot.unset).toArray = ls at hl ⊢
  have hl : lv_has ls 2 [(0, .ref (a 0)), (1, .int p0)] := hl
  unfold Mo_isStage_w at hw
  refine lv_iload_n hx hb d_Mo_isStage_0 rfl (lv_at hl 1 rfl) ?_
  refine lv_i2l hx hb d_Mo_isStage_1 rfl ?_
  refine lv_lconst (v := (0 : Int64)) hx hb d_Mo_isStage_2 (by decide) ?_
  refine lv_aload_n hx hb d_Mo_isStage_3 rfl (lv_at hl 0 rfl) ?_
  refine va_get (D := (dC, dI)) (ci := 7) (v := .int (fi 2)) (C := R_Mo) (T := T_Mo) (N := 36) hx hb ht in_Mo hown hK hP 0 rfl rfl 11 (by decide) (ht _ kw_624) (fun _ h9 => h9) rfl d_Mo_isStage_4 ?_
  refine lv_iconst (v := (1 : Int32)) hx hb d_Mo_isStage_7 (by decide) ?_
  refine lv_isub hx hb d_Mo_isStage_8 ?_
  refine lv_i2l hx hb d_Mo_isStage_9 rfl ?_
  refine vp_callSi (va_Run.run (va_runS (As := [.long p0.toInt64, .long (0 : Int64), .long ((fi 2) - (1 : Int32)).toInt64]) (rest := []) ⟨hx, hb, hml, hown, hts⟩ (c_Mo_in l p0.toInt64 (0 : Int64) (((fi 2) - (1 : Int32)).toInt64) _ hw) (va_cwS 3 hts (zw_goodS kw_731 kw_732 kw_9 kw_733) rfl rfl rfl hd_Mo_in.2 ⟨Nat.le_of_ble_eq_true rfl, Nat.le_of_ble_eq_true rfl⟩) zw_preS0 rfl rfl hl.1 rfl (lv_room (Nat.le_of_ble_eq_true rfl)) d_Mo_isStage_10 ⟨Nat.le_of_ble_eq_true rfl, Nat.le_of_ble_eq_true rfl⟩)) (fun r10 hw => ?_)
  obtain ⟨hz, hw⟩ := hw
  exact W.zret (v := r10) (ty := .boolean) hx hb hr (zw_bool_n hz) (fun t ht hW => ⟨r10, rfl, hw, ht⟩) t_nil d_Mo_isStage_13
def Mo_part_w (fi : Nat → Int32) (fl : Nat → Int64) (ai : Nat → Nat → Int32) (al : Nat → Nat → Int64) (p0 : Int32) (p1 : Int32) (p2 : Int32) (K : Int32 → (Nat → Nat → Int32) → Prop) : Prop :=
  Mo_isPart_w fi fl ai al p0 (fun (r2 : Int32) =>
  if r2 = 0 then (
    K (0 : Int32) ai)
  else (
    Mo_in_w p1.toInt64 (0 : Int64) (1000 : Int64) (fun (r14 : Int32) =>
    if r14 = 0 then (
      K (0 : Int32) ai)
    else (
      Mo_in_w p2.toInt64 (-100000 : Int64) (100000 : Int64) (fun (r28 : Int32) =>
      if r28 = 0 then (
        K (0 : Int32) ai)
      else (
        vp_in p0 6 ∧ (zw_nm (va_up ai 1 (upd (ai 1) p0.toNatClampNeg p1)) (fun (ai_42 : Nat → Nat → Int32) =>
        vp_in p0 6 ∧ (zw_nm (va_up ai_42 2 (upd (ai_42 2) p0.toNatClampNeg p2)) (fun (ai_49 : Nat → Nat → Int32) =>
        K (1 : Int32) ai_49))))))))))
theorem d_Mo_part_0 : decode b_Mo_part 0 = .ok (.aload_n 0, 1) := by decide +kernel
theorem d_Mo_part_1 : decode b_Mo_part 1 = .ok (.iload_n 1, 1) := by decide +kernel
theorem d_Mo_part_2 : decode b_Mo_part 2 = .ok (.invokevirtual 110, 3) := by decide +kernel
theorem d_Mo_part_5 : decode b_Mo_part 5 = .ok (.ifCond .eq (29), 3) := by decide +kernel
theorem d_Mo_part_8 : decode b_Mo_part 8 = .ok (.iload_n 2, 1) := by decide +kernel
theorem d_Mo_part_9 : decode b_Mo_part 9 = .ok (.i2l, 1) := by decide +kernel
theorem d_Mo_part_10 : decode b_Mo_part 10 = .ok (.lconst 0, 1) := by decide +kernel
theorem d_Mo_part_11 : decode b_Mo_part 11 = .ok (.ldc2_w 114, 3) := by decide +kernel
theorem d_Mo_part_14 : decode b_Mo_part 14 = .ok (.invokestatic 103, 3) := by decide +kernel
theorem d_Mo_part_17 : decode b_Mo_part 17 = .ok (.ifCond .eq (17), 3) := by decide +kernel
theorem d_Mo_part_20 : decode b_Mo_part 20 = .ok (.iload_n 3, 1) := by decide +kernel
theorem d_Mo_part_21 : decode b_Mo_part 21 = .ok (.i2l, 1) := by decide +kernel
theorem d_Mo_part_22 : decode b_Mo_part 22 = .ok (.ldc2_w 116, 3) := by decide +kernel
theorem d_Mo_part_25 : decode b_Mo_part 25 = .ok (.ldc2_w 118, 3) := by decide +kernel
theorem d_Mo_part_28 : decode b_Mo_part 28 = .ok (.invokestatic 103, 3) := by decide +kernel
theorem d_Mo_part_31 : decode b_Mo_part 31 = .ok (.ifCond .ne (5), 3) := by decide +kernel
theorem d_Mo_part_34 : decode b_Mo_part 34 = .ok (.iconst 0, 1) := by decide +kernel
theorem d_Mo_part_35 : decode b_Mo_part 35 = .ok (.ireturn, 1) := by decide +kernel
theorem d_Mo_part_36 : decode b_Mo_part 36 = .ok (.aload_n 0, 1) := by decide +kernel
theorem d_Mo_part_37 : decode b_Mo_part 37 = .ok (.getfield 7, 3) := by decide +kernel
theorem d_Mo_part_40 : decode b_Mo_part 40 = .ok (.iload_n 1, 1) := by decide +kernel
theorem d_Mo_part_41 : decode b_Mo_part 41 = .ok (.iload_n 2, 1) := by decide +kernel
theorem d_Mo_part_42 : decode b_Mo_part 42 = .ok (.iastore, 1) := by decide +kernel
theorem d_Mo_part_43 : decode b_Mo_part 43 = .ok (.aload_n 0, 1) := by decide +kernel
theorem d_Mo_part_44 : decode b_Mo_part 44 = .ok (.getfield 13, 3) := by decide +kernel
theorem d_Mo_part_47 : decode b_Mo_part 47 = .ok (.iload_n 1, 1) := by decide +kernel
theorem d_Mo_part_48 : decode b_Mo_part 48 = .ok (.iload_n 3, 1) := by decide +kernel
theorem d_Mo_part_49 : decode b_Mo_part 49 = .ok (.iastore, 1) := by decide +kernel
theorem d_Mo_part_50 : decode b_Mo_part 50 = .ok (.iconst 1, 1) := by decide +kernel
theorem d_Mo_part_51 : decode b_Mo_part 51 = .ok (.ireturn, 1) := by decide +kernel
set_option maxHeartbeats 4000000 in
set_option maxRecDepth 100000 in
theorem c_Mo_part (l : Launch) (dC : Nat → ClassId) (dI : Nat → Nat → Nat) (cI cJ cG cZ : ClassId) (a : Nat → Nat) (sz : Nat) (fi : Nat → Int32) (fl : Nat → Int64) (ai : Nat → Nat → Int32) (al : Nat → Nat → Int64) (p0 : Int32) (p1 : Int32) (p2 : Int32) (K : Int32 → (Nat → Nat → Int32) → Prop) (hw : Mo_part_w fi fl ai al p0 p1 p2 K) : Met l y_Mo_part ws_Mo_part ({ frames := 2, cells := 0, slots := 0, locals := 46 }) (va_Pc [.ref (a 0), .int p0, .int p1, .int p2] (zw_Bw (dC, dI) vwCl [(cI, .int), (cJ, .long), (cG, .array .int), (cZ, .boolean)] (mw cI cJ cG cZ a fi fl ai al) sz)) (va_Qi (fun r (u : zw_Z) => (zw_k_air fi fl al K) r u.1 u.2.1 u.2.2.1 u.2.2.2) (fun u t => zw_E (dC, dI) vwCl [(cI, .int), (cJ, .long), (cG, .array .int), (cZ, .boolean)] (va_A (mw cI cJ cG cZ a fi fl ai al) sz) (mw cI cJ cG cZ a u.1 u.2.1 u.2.2.1 u.2.2.2) t) (va_A (mw cI cJ cG cZ a fi fl ai al) sz)) 0 0 (va_A (mw cI cJ cG cZ a fi fl ai al) sz) := by
  refine Met.ofW (cc := b_Mo_part) (maxL := 4) (ret := (Option.some FieldType.boolean)) (by decide) rfl ?_
  intro p e s m args below meth c s₁ B hml hv
  obtain ⟨rfl, hsz, hP, hK, hD0, hN⟩ := hv
  have hx := B.exec
  have hb := B.bytes
  have hr := B.returns
  have hts := atoms_spec (ws := ws_Mo_part) B.pre
  have ht : ∀ w ∈ zw_tbl, w.before _ s = true := fun w h => hts w (List.mem_cons_of_mem _ h)
  have hown : s.vm.findClass R_Mo = some m.cls := findClass_of_methodNamed B.named
  have hlocks := B.notSynchronized
  subst hsz
  have hD := hD0.self (sz := s.heap.size)
  generalize hAe : va_A (mw cI cJ cG cZ a fi fl ai al) s.heap.size = A at hD ⊢
  have hA : ∀ q : Nat, s.heap.size ≤ q → A q := fun q h => by rw [← hAe]; exact Or.inr h
  have hS : va_S A s.heap s.heap [] := va_S.rf
  have hl := lv_entry ([.ref (a 0), .int p0, .int p1, .int p2] : List Value) (n := 4) (Nat.le_of_ble_eq_true rfl)
  rw [lg_entry_eq]
  generalize (lg_sl ([.ref (a 0), .int p0, .int p1, .int p2] : List Value) ++ List.replicate (4 - (lg_sl ([.ref (a 0), .int p0, .int p1, .int p2] : List Value)).length) Slot.unset).toArray = ls at hl ⊢
  have hl : lv_has ls 4 [(0, .ref (a 0)), (1, .int p0), (2, .int p1), (3, .int p2)] := hl
  unfold Mo_part_w at hw
  obtain ⟨H, hH⟩ : ∃ H, H = s.heap := ⟨_, rfl⟩
  obtain ⟨locs, hlo⟩ : ∃ q : List Loc, q = [] := ⟨_, rfl⟩
  have hP : va_P (dC, dI) vwCl (mw cI cJ cG cZ a fi fl ai al) H := by rw [hH]; exact hP
  have hS : va_S A s.heap H locs := by rw [hH, hlo]; exact hS
  have key : W p l e (headSpec ws_Mo_part ({ frames := 2, cells := 0, slots := 0, locals := 46 })).room s m ([.ref (a 0), .int p0, .int p1, .int p2] : List Value).toArray below meth c H locs 0 0 (MQ below (va_Qi (fun r (u : zw_Z) => (zw_k_air fi fl al K) r u.1 u.2.1 u.2.2.1 u.2.2.2) (fun u t => zw_E (dC, dI) vwCl [(cI, .int), (cJ, .long), (cG, .array .int), (cZ, .boolean)] A (mw cI cJ cG cZ a u.1 u.2.1 u.2.2.1 u.2.2.2) t) A) ([.ref (a 0), .int p0, .int p1, .int p2] : List Value).toArray s 0 0 A) (F0 m 0 ls []) := by
    refine lv_aload_n hx hb d_Mo_part_0 rfl (lv_at hl 0 rfl) ?_
    refine lv_iload_n hx hb d_Mo_part_1 rfl (lv_at hl 1 rfl) ?_
    refine vp_callSi (va_Run.run (va_runV (As := [.int p0]) (rest := []) ⟨hx, hb, hml, hown, hts⟩ (c_Mo_isPart l dC dI cI cJ cG cZ a fi fl ai al p0 _ hw) (cwV 1 hts (zw_goodV kw_727 kw_729 kw_s16 kw_9 kw_730) rfl rfl rfl hd_Mo_isPart ⟨Nat.le_of_ble_eq_true rfl, Nat.le_of_ble_eq_true rfl⟩) (zw_preV (ci := 7) (q0 := 0) hK hN hP rfl rfl) rfl rfl hl.1 rfl (lv_room (Nat.le_of_ble_eq_true rfl)) d_Mo_part_2 ⟨Nat.le_of_ble_eq_true rfl, Nat.le_of_ble_eq_true rfl⟩)) (fun r2 hw => ?_)
    refine lv_if_eq (tgt := 34) hx hb d_Mo_part_5 (by decide) (fun c5 => ?_) (fun c5 => ?_)
    · have hw := zw_ite_t c5 hw
      refine lv_iconst (v := (0 : Int32)) hx hb d_Mo_part_34 (by decide) ?_
      exact W.zret (v := (0 : Int32)) (ty := .boolean) hx hb hr rfl (fun t ht hW => ⟨⟨(0 : Int32), (fi, fl, ai, al), rfl, ⟨rfl, rfl, rfl, hw⟩, by rw [ht]; exact hP, va_K.moved hW.alike hK, hD⟩, hS.F ht⟩) hS.2.2 d_Mo_part_35
    · have hw := zw_ite_f c5 hw
      refine lv_iload_n hx hb d_Mo_part_8 rfl (lv_at hl 2 rfl) ?_
      refine lv_i2l hx hb d_Mo_part_9 rfl ?_
      refine lv_lconst (v := (0 : Int64)) hx hb d_Mo_part_10 (by decide) ?_
      refine lv_ldc2 (v := (1000 : Int64)) hx hb hown (hts (.constantLong R_Mo 114 (1000 : Int64)) (by decide +kernel)) d_Mo_part_11 ?_
      refine vp_callSi (va_Run.run (va_runS (As := [.long p1.toInt64, .long (0 : Int64), .long (1000 : Int64)]) (rest := []) ⟨hx, hb, hml, hown, hts⟩ (c_Mo_in l p1.toInt64 (0 : Int64) (1000 : Int64) _ hw) (va_cwS 3 hts (zw_goodS kw_731 kw_732 kw_9 kw_733) rfl rfl rfl hd_Mo_in.2 ⟨Nat.le_of_ble_eq_true rfl, Nat.le_of_ble_eq_true rfl⟩) zw_preS0 rfl rfl hl.1 rfl (lv_room (Nat.le_of_ble_eq_true rfl)) d_Mo_part_14 ⟨Nat.le_of_ble_eq_true rfl, Nat.le_of_ble_eq_true rfl⟩)) (fun r14 hw => ?_)
      refine lv_if_eq (tgt := 34) hx hb d_Mo_part_17 (by decide) (fun c17 => ?_) (fun c17 => ?_)
      · have hw := zw_ite_t c17 hw
        refine lv_iconst (v := (0 : Int32)) hx hb d_Mo_part_34 (by decide) ?_
        exact W.zret (v := (0 : Int32)) (ty := .boolean) hx hb hr rfl (fun t ht hW => ⟨⟨(0 : Int32), (fi, fl, ai, al), rfl, ⟨rfl, rfl, rfl, hw⟩, by rw [ht]; exact hP, va_K.moved hW.alike hK, hD⟩, hS.F ht⟩) hS.2.2 d_Mo_part_35
      · have hw := zw_ite_f c17 hw
        refine lv_iload_n hx hb d_Mo_part_20 rfl (lv_at hl 3 rfl) ?_
        refine lv_i2l hx hb d_Mo_part_21 rfl ?_
        refine lv_ldc2 (v := (-100000 : Int64)) hx hb hown (hts (.constantLong R_Mo 116 (-100000 : Int64)) (by decide +kernel)) d_Mo_part_22 ?_
        refine lv_ldc2 (v := (100000 : Int64)) hx hb hown (hts (.constantLong R_Mo 118 (100000 : Int64)) (by decide +kernel)) d_Mo_part_25 ?_
        refine vp_callSi (va_Run.run (va_runS (As := [.long p2.toInt64, .long (-100000 : Int64), .long (100000 : Int64)]) (rest := []) ⟨hx, hb, hml, hown, hts⟩ (c_Mo_in l p2.toInt64 (-100000 : Int64) (100000 : Int64) _ hw) (va_cwS 3 hts (zw_goodS kw_731 kw_732 kw_9 kw_733) rfl rfl rfl hd_Mo_in.2 ⟨Nat.le_of_ble_eq_true rfl, Nat.le_of_ble_eq_true rfl⟩) zw_preS0 rfl rfl hl.1 rfl (lv_room (Nat.le_of_ble_eq_true rfl)) d_Mo_part_28 ⟨Nat.le_of_ble_eq_true rfl, Nat.le_of_ble_eq_true rfl⟩)) (fun r28 hw => ?_)
        refine lv_if_ne (tgt := 36) hx hb d_Mo_part_31 (by decide) (fun c31 => ?_) (fun c31 => ?_)
        · have hw := zw_ite_f c31 hw
          refine lv_aload_n hx hb d_Mo_part_36 rfl (lv_at hl 0 rfl) ?_
          refine va_get (D := (dC, dI)) (ci := 7) (v := .ref (a 1)) (C := R_Mo) (T := T_Mo) (N := 36) hx hb ht in_Mo hown hK hP 0 rfl rfl 1 (by decide) (ht _ kw_614) (fun _ h9 => h9) rfl d_Mo_part_37 ?_
          refine lv_iload_n hx hb d_Mo_part_40 rfl (lv_at hl 1 rfl) ?_
          refine lv_iload_n hx hb d_Mo_part_41 rfl (lv_at hl 2 rfl) ?_
          obtain ⟨h42, hw⟩ := hw
          refine va_iast (f := ai 1) hx hb hK hP hD hS 1 0 rfl rfl h42 d_Mo_part_42 (fun H locs hP hD hS => ?_)
          have hP := mwpai_1 hP
          have hD := mwdai_1 hD
          obtain ⟨ai_42, eai_42⟩ : ∃ z, z = va_up ai 1 (upd (ai 1) p0.toNatClampNeg p1) := ⟨_, rfl⟩
          rw [← eai_42] at hP hD
          have hw := zw_nm_x eai_42 hw
          refine lv_aload_n hx hb d_Mo_part_43 rfl (lv_at hl 0 rfl) ?_
          refine va_get (D := (dC, dI)) (ci := 7) (v := .ref (a 2)) (C := R_Mo) (T := T_Mo) (N := 36) hx hb ht in_Mo hown hK hP 0 rfl rfl 2 (by decide) (ht _ kw_615) (fun _ h9 => h9) rfl d_Mo_part_44 ?_
          refine lv_iload_n hx hb d_Mo_part_47 rfl (lv_at hl 1 rfl) ?_
          refine lv_iload_n hx hb d_Mo_part_48 rfl (lv_at hl 3 rfl) ?_
          obtain ⟨h49, hw⟩ := hw
          refine va_iast (f := ai_42 2) hx hb hK hP hD hS 2 0 rfl rfl h49 d_Mo_part_49 (fun H locs hP hD hS => ?_)
          have hP := mwpai_2 hP
          have hD := mwdai_2 hD
          obtain ⟨ai_49, eai_49⟩ : ∃ z, z = va_up ai_42 2 (upd (ai_42 2) p0.toNatClampNeg p2) := ⟨_, rfl⟩
          rw [← eai_49] at hP hD
          have hw := zw_nm_x eai_49 hw
          refine lv_iconst (v := (1 : Int32)) hx hb d_Mo_part_50 (by decide) ?_
          exact W.zret (v := (1 : Int32)) (ty := .boolean) hx hb hr rfl (fun t ht hW => ⟨⟨(1 : Int32), (fi, fl, ai_49, al), rfl, ⟨rfl, rfl, rfl, hw⟩, by rw [ht]; exact hP, va_K.moved hW.alike hK, hD⟩, hS.F ht⟩) hS.2.2 d_Mo_part_51
        · have hw := zw_ite_t c31 hw
          refine lv_iconst (v := (0 : Int32)) hx hb d_Mo_part_34 (by decide) ?_
          exact W.zret (v := (0 : Int32)) (ty := .boolean) hx hb hr rfl (fun t ht hW => ⟨⟨(0 : Int32), (fi, fl, ai, al), rfl, ⟨rfl, rfl, rfl, hw⟩, by rw [ht]; exact hP, va_K.moved hW.alike hK, hD⟩, hS.F ht⟩) hS.2.2 d_Mo_part_35
  rw [hH, hlo] at key
  exact key
def Mo_flex_w (fi : Nat → Int32) (fl : Nat → Int64) (ai : Nat → Nat → Int32) (al : Nat → Nat → Int64) (p0 : Int32) (p1 : Int32) (p2 : Int32) (p3 : Int32) (K : Int32 → (Nat → Nat → Int32) → Prop) : Prop :=
  Mo_in_w p0.toInt64 (0 : Int64) (7 : Int64) (fun (r6 : Int32) =>
  if r6 = 0 then (
    K (0 : Int32) ai)
  else (
    Mo_isPart_w fi fl ai al p1 (fun (r14 : Int32) =>
    if r14 = 0 then (
      K (0 : Int32) ai)
    else (
      Mo_isPart_w fi fl ai al p2 (fun (r22 : Int32) =>
      if r22 = 0 then (
        K (0 : Int32) ai)
      else (
        Mo_in_w p3.toInt64 (-1000 : Int64) (1000 : Int64) (fun (r37 : Int32) =>
        if r37 = 0 then (
          K (0 : Int32) ai)
        else (
          vp_in ((((36 : Int32) * p0) + ((6 : Int32) * p1)) + p2) 288 ∧ (zw_nm (va_up ai 3 (upd (ai 3) ((((36 : Int32) * p0) + ((6 : Int32) * p1)) + p2).toNatClampNeg p3)) (fun (ai_62 : Nat → Nat → Int32) =>
          K (1 : Int32) ai_62))))))))))
theorem d_Mo_flex_0 : decode b_Mo_flex 0 = .ok (.iload_n 1, 1) := by decide +kernel
theorem d_Mo_flex_1 : decode b_Mo_flex 1 = .ok (.i2l, 1) := by decide +kernel
theorem d_Mo_flex_2 : decode b_Mo_flex 2 = .ok (.lconst 0, 1) := by decide +kernel
theorem d_Mo_flex_3 : decode b_Mo_flex 3 = .ok (.ldc2_w 120, 3) := by decide +kernel
theorem d_Mo_flex_6 : decode b_Mo_flex 6 = .ok (.invokestatic 103, 3) := by decide +kernel
theorem d_Mo_flex_9 : decode b_Mo_flex 9 = .ok (.ifCond .eq (34), 3) := by decide +kernel
theorem d_Mo_flex_12 : decode b_Mo_flex 12 = .ok (.aload_n 0, 1) := by decide +kernel
theorem d_Mo_flex_13 : decode b_Mo_flex 13 = .ok (.iload_n 2, 1) := by decide +kernel
theorem d_Mo_flex_14 : decode b_Mo_flex 14 = .ok (.invokevirtual 110, 3) := by decide +kernel
theorem d_Mo_flex_17 : decode b_Mo_flex 17 = .ok (.ifCond .eq (26), 3) := by decide +kernel
theorem d_Mo_flex_20 : decode b_Mo_flex 20 = .ok (.aload_n 0, 1) := by decide +kernel
theorem d_Mo_flex_21 : decode b_Mo_flex 21 = .ok (.iload_n 3, 1) := by decide +kernel
theorem d_Mo_flex_22 : decode b_Mo_flex 22 = .ok (.invokevirtual 110, 3) := by decide +kernel
theorem d_Mo_flex_25 : decode b_Mo_flex 25 = .ok (.ifCond .eq (18), 3) := by decide +kernel
theorem d_Mo_flex_28 : decode b_Mo_flex 28 = .ok (.iload 4, 2) := by decide +kernel
theorem d_Mo_flex_30 : decode b_Mo_flex 30 = .ok (.i2l, 1) := by decide +kernel
theorem d_Mo_flex_31 : decode b_Mo_flex 31 = .ok (.ldc2_w 122, 3) := by decide +kernel
theorem d_Mo_flex_34 : decode b_Mo_flex 34 = .ok (.ldc2_w 114, 3) := by decide +kernel
theorem d_Mo_flex_37 : decode b_Mo_flex 37 = .ok (.invokestatic 103, 3) := by decide +kernel
theorem d_Mo_flex_40 : decode b_Mo_flex 40 = .ok (.ifCond .ne (5), 3) := by decide +kernel
theorem d_Mo_flex_43 : decode b_Mo_flex 43 = .ok (.iconst 0, 1) := by decide +kernel
theorem d_Mo_flex_44 : decode b_Mo_flex 44 = .ok (.ireturn, 1) := by decide +kernel
theorem d_Mo_flex_45 : decode b_Mo_flex 45 = .ok (.aload_n 0, 1) := by decide +kernel
theorem d_Mo_flex_46 : decode b_Mo_flex 46 = .ok (.getfield 16, 3) := by decide +kernel
theorem d_Mo_flex_49 : decode b_Mo_flex 49 = .ok (.bipush (36), 2) := by decide +kernel
theorem d_Mo_flex_51 : decode b_Mo_flex 51 = .ok (.iload_n 1, 1) := by decide +kernel
theorem d_Mo_flex_52 : decode b_Mo_flex 52 = .ok (.imul, 1) := by decide +kernel
theorem d_Mo_flex_53 : decode b_Mo_flex 53 = .ok (.bipush (6), 2) := by decide +kernel
theorem d_Mo_flex_55 : decode b_Mo_flex 55 = .ok (.iload_n 2, 1) := by decide +kernel
theorem d_Mo_flex_56 : decode b_Mo_flex 56 = .ok (.imul, 1) := by decide +kernel
theorem d_Mo_flex_57 : decode b_Mo_flex 57 = .ok (.iadd, 1) := by decide +kernel
theorem d_Mo_flex_58 : decode b_Mo_flex 58 = .ok (.iload_n 3, 1) := by decide +kernel
theorem d_Mo_flex_59 : decode b_Mo_flex 59 = .ok (.iadd, 1) := by decide +kernel
theorem d_Mo_flex_60 : decode b_Mo_flex 60 = .ok (.iload 4, 2) := by decide +kernel
theorem d_Mo_flex_62 : decode b_Mo_flex 62 = .ok (.iastore, 1) := by decide +kernel
theorem d_Mo_flex_63 : decode b_Mo_flex 63 = .ok (.iconst 1, 1) := by decide +kernel
theorem d_Mo_flex_64 : decode b_Mo_flex 64 = .ok (.ireturn, 1) := by decide +kernel
set_option maxHeartbeats 4000000 in
set_option maxRecDepth 100000 in
theorem c_Mo_flex (l : Launch) (dC : Nat → ClassId) (dI : Nat → Nat → Nat) (cI cJ cG cZ : ClassId) (a : Nat → Nat) (sz : Nat) (fi : Nat → Int32) (fl : Nat → Int64) (ai : Nat → Nat → Int32) (al : Nat → Nat → Int64) (p0 : Int32) (p1 : Int32) (p2 : Int32) (p3 : Int32) (K : Int32 → (Nat → Nat → Int32) → Prop) (hw : Mo_flex_w fi fl ai al p0 p1 p2 p3 K) : Met l y_Mo_flex ws_Mo_flex ({ frames := 2, cells := 0, slots := 0, locals := 46 }) (va_Pc [.ref (a 0), .int p0, .int p1, .int p2, .int p3] (zw_Bw (dC, dI) vwCl [(cI, .int), (cJ, .long), (cG, .array .int), (cZ, .boolean)] (mw cI cJ cG cZ a fi fl ai al) sz)) (va_Qi (fun r (u : zw_Z) => (zw_k_air fi fl al K) r u.1 u.2.1 u.2.2.1 u.2.2.2) (fun u t => zw_E (dC, dI) vwCl [(cI, .int), (cJ, .long), (cG, .array .int), (cZ, .boolean)] (va_A (mw cI cJ cG cZ a fi fl ai al) sz) (mw cI cJ cG cZ a u.1 u.2.1 u.2.2.1 u.2.2.2) t) (va_A (mw cI cJ cG cZ a fi fl ai al) sz)) 0 0 (va_A (mw cI cJ cG cZ a fi fl ai al) sz) := by
  refine Met.ofW (cc := b_Mo_flex) (maxL := 5) (ret := (Option.some FieldType.boolean)) (by decide) rfl ?_
  intro p e s m args below meth c s₁ B hml hv
  obtain ⟨rfl, hsz, hP, hK, hD0, hN⟩ := hv
  have hx := B.exec
  have hb := B.bytes
  have hr := B.returns
  have hts := atoms_spec (ws := ws_Mo_flex) B.pre
  have ht : ∀ w ∈ zw_tbl, w.before _ s = true := fun w h => hts w (List.mem_cons_of_mem _ h)
  have hown : s.vm.findClass R_Mo = some m.cls := findClass_of_methodNamed B.named
  have hlocks := B.notSynchronized
  subst hsz
  have hD := hD0.self (sz := s.heap.size)
  generalize hAe : va_A (mw cI cJ cG cZ a fi fl ai al) s.heap.size = A at hD ⊢
  have hA : ∀ q : Nat, s.heap.size ≤ q → A q := fun q h => by rw [← hAe]; exact Or.inr h
  have hS : va_S A s.heap s.heap [] := va_S.rf
  have hl := lv_entry ([.ref (a 0), .int p0, .int p1, .int p2, .int p3] : List Value) (n := 5) (Nat.le_of_ble_eq_true rfl)
  rw [lg_entry_eq]
  generalize (lg_sl ([.ref (a 0), .int p0, .int p1, .int p2, .int p3] : List Value) ++ List.replicate (5 - (lg_sl ([.ref (a 0), .int p0, .int p1, .int p2, .int p3] : List Value)).length) Slot.unset).toArray = ls at hl ⊢
  have hl : lv_has ls 5 [(0, .ref (a 0)), (1, .int p0), (2, .int p1), (3, .int p2), (4, .int p3)] := hl
  unfold Mo_flex_w at hw
  obtain ⟨H, hH⟩ : ∃ H, H = s.heap := ⟨_, rfl⟩
  obtain ⟨locs, hlo⟩ : ∃ q : List Loc, q = [] := ⟨_, rfl⟩
  have hP : va_P (dC, dI) vwCl (mw cI cJ cG cZ a fi fl ai al) H := by rw [hH]; exact hP
  have hS : va_S A s.heap H locs := by rw [hH, hlo]; exact hS
  have key : W p l e (headSpec ws_Mo_flex ({ frames := 2, cells := 0, slots := 0, locals := 46 })).room s m ([.ref (a 0), .int p0, .int p1, .int p2, .int p3] : List Value).toArray below meth c H locs 0 0 (MQ below (va_Qi (fun r (u : zw_Z) => (zw_k_air fi fl al K) r u.1 u.2.1 u.2.2.1 u.2.2.2) (fun u t => zw_E (dC, dI) vwCl [(cI, .int), (cJ, .long), (cG, .array .int), (cZ, .boolean)] A (mw cI cJ cG cZ a u.1 u.2.1 u.2.2.1 u.2.2.2) t) A) ([.ref (a 0), .int p0, .int p1, .int p2, .int p3] : List Value).toArray s 0 0 A) (F0 m 0 ls []) := by
    refine lv_iload_n hx hb d_Mo_flex_0 rfl (lv_at hl 1 rfl) ?_
    refine lv_i2l hx hb d_Mo_flex_1 rfl ?_
    refine lv_lconst (v := (0 : Int64)) hx hb d_Mo_flex_2 (by decide) ?_
    refine lv_ldc2 (v := (7 : Int64)) hx hb hown (hts (.constantLong R_Mo 120 (7 : Int64)) (by decide +kernel)) d_Mo_flex_3 ?_
    refine vp_callSi (va_Run.run (va_runS (As := [.long p0.toInt64, .long (0 : Int64), .long (7 : Int64)]) (rest := []) ⟨hx, hb, hml, hown, hts⟩ (c_Mo_in l p0.toInt64 (0 : Int64) (7 : Int64) _ hw) (va_cwS 3 hts (zw_goodS kw_731 kw_732 kw_9 kw_733) rfl rfl rfl hd_Mo_in.2 ⟨Nat.le_of_ble_eq_true rfl, Nat.le_of_ble_eq_true rfl⟩) zw_preS0 rfl rfl hl.1 rfl (lv_room (Nat.le_of_ble_eq_true rfl)) d_Mo_flex_6 ⟨Nat.le_of_ble_eq_true rfl, Nat.le_of_ble_eq_true rfl⟩)) (fun r6 hw => ?_)
    refine lv_if_eq (tgt := 43) hx hb d_Mo_flex_9 (by decide) (fun c9 => ?_) (fun c9 => ?_)
    · have hw := zw_ite_t c9 hw
      refine lv_iconst (v := (0 : Int32)) hx hb d_Mo_flex_43 (by decide) ?_
      exact W.zret (v := (0 : Int32)) (ty := .boolean) hx hb hr rfl (fun t ht hW => ⟨⟨(0 : Int32), (fi, fl, ai, al), rfl, ⟨rfl, rfl, rfl, hw⟩, by rw [ht]; exact hP, va_K.moved hW.alike hK, hD⟩, hS.F ht⟩) hS.2.2 d_Mo_flex_44
    · have hw := zw_ite_f c9 hw
      refine lv_aload_n hx hb d_Mo_flex_12 rfl (lv_at hl 0 rfl) ?_
      refine lv_iload_n hx hb d_Mo_flex_13 rfl (lv_at hl 2 rfl) ?_
      refine vp_callSi (va_Run.run (va_runV (As := [.int p1]) (rest := []) ⟨hx, hb, hml, hown, hts⟩ (c_Mo_isPart l dC dI cI cJ cG cZ a fi fl ai al p1 _ hw) (cwV 1 hts (zw_goodV kw_727 kw_729 kw_s16 kw_9 kw_730) rfl rfl rfl hd_Mo_isPart ⟨Nat.le_of_ble_eq_true rfl, Nat.le_of_ble_eq_true rfl⟩) (zw_preV (ci := 7) (q0 := 0) hK hN hP rfl rfl) rfl rfl hl.1 rfl (lv_room (Nat.le_of_ble_eq_true rfl)) d_Mo_flex_14 ⟨Nat.le_of_ble_eq_true rfl, Nat.le_of_ble_eq_true rfl⟩)) (fun r14 hw => ?_)
      refine lv_if_eq (tgt := 43) hx hb d_Mo_flex_17 (by decide) (fun c17 => ?_) (fun c17 => ?_)
      · have hw := zw_ite_t c17 hw
        refine lv_iconst (v := (0 : Int32)) hx hb d_Mo_flex_43 (by decide) ?_
        exact W.zret (v := (0 : Int32)) (ty := .boolean) hx hb hr rfl (fun t ht hW => ⟨⟨(0 : Int32), (fi, fl, ai, al), rfl, ⟨rfl, rfl, rfl, hw⟩, by rw [ht]; exact hP, va_K.moved hW.alike hK, hD⟩, hS.F ht⟩) hS.2.2 d_Mo_flex_44
      · have hw := zw_ite_f c17 hw
        refine lv_aload_n hx hb d_Mo_flex_20 rfl (lv_at hl 0 rfl) ?_
        refine lv_iload_n hx hb d_Mo_flex_21 rfl (lv_at hl 3 rfl) ?_
        refine vp_callSi (va_Run.run (va_runV (As := [.int p2]) (rest := []) ⟨hx, hb, hml, hown, hts⟩ (c_Mo_isPart l dC dI cI cJ cG cZ a fi fl ai al p2 _ hw) (cwV 1 hts (zw_goodV kw_727 kw_729 kw_s16 kw_9 kw_730) rfl rfl rfl hd_Mo_isPart ⟨Nat.le_of_ble_eq_true rfl, Nat.le_of_ble_eq_true rfl⟩) (zw_preV (ci := 7) (q0 := 0) hK hN hP rfl rfl) rfl rfl hl.1 rfl (lv_room (Nat.le_of_ble_eq_true rfl)) d_Mo_flex_22 ⟨Nat.le_of_ble_eq_true rfl, Nat.le_of_ble_eq_true rfl⟩)) (fun r22 hw => ?_)
        refine lv_if_eq (tgt := 43) hx hb d_Mo_flex_25 (by decide) (fun c25 => ?_) (fun c25 => ?_)
        · have hw := zw_ite_t c25 hw
          refine lv_iconst (v := (0 : Int32)) hx hb d_Mo_flex_43 (by decide) ?_
          exact W.zret (v := (0 : Int32)) (ty := .boolean) hx hb hr rfl (fun t ht hW => ⟨⟨(0 : Int32), (fi, fl, ai, al), rfl, ⟨rfl, rfl, rfl, hw⟩, by rw [ht]; exact hP, va_K.moved hW.alike hK, hD⟩, hS.F ht⟩) hS.2.2 d_Mo_flex_44
        · have hw := zw_ite_f c25 hw
          refine lv_iload hx hb d_Mo_flex_28 (lv_at hl 4 rfl) ?_
          refine lv_i2l hx hb d_Mo_flex_30 rfl ?_
          refine lv_ldc2 (v := (-1000 : Int64)) hx hb hown (hts (.constantLong R_Mo 122 (-1000 : Int64)) (by decide +kernel)) d_Mo_flex_31 ?_
          refine lv_ldc2 (v := (1000 : Int64)) hx hb hown (hts (.constantLong R_Mo 114 (1000 : Int64)) (by decide +kernel)) d_Mo_flex_34 ?_
          refine vp_callSi (va_Run.run (va_runS (As := [.long p3.toInt64, .long (-1000 : Int64), .long (1000 : Int64)]) (rest := []) ⟨hx, hb, hml, hown, hts⟩ (c_Mo_in l p3.toInt64 (-1000 : Int64) (1000 : Int64) _ hw) (va_cwS 3 hts (zw_goodS kw_731 kw_732 kw_9 kw_733) rfl rfl rfl hd_Mo_in.2 ⟨Nat.le_of_ble_eq_true rfl, Nat.le_of_ble_eq_true rfl⟩) zw_preS0 rfl rfl hl.1 rfl (lv_room (Nat.le_of_ble_eq_true rfl)) d_Mo_flex_37 ⟨Nat.le_of_ble_eq_true rfl, Nat.le_of_ble_eq_true rfl⟩)) (fun r37 hw => ?_)
          refine lv_if_ne (tgt := 45) hx hb d_Mo_flex_40 (by decide) (fun c40 => ?_) (fun c40 => ?_)
          · have hw := zw_ite_f c40 hw
            refine lv_aload_n hx hb d_Mo_flex_45 rfl (lv_at hl 0 rfl) ?_
            refine va_get (D := (dC, dI)) (ci := 7) (v := .ref (a 3)) (C := R_Mo) (T := T_Mo) (N := 36) hx hb ht in_Mo hown hK hP 0 rfl rfl 3 (by decide) (ht _ kw_616) (fun _ h9 => h9) rfl d_Mo_flex_46 ?_
            refine lv_bipush (v := (36 : Int32)) hx hb d_Mo_flex_49 (by decide) ?_
            refine lv_iload_n hx hb d_Mo_flex_51 rfl (lv_at hl 1 rfl) ?_
            refine lv_imul hx hb d_Mo_flex_52 ?_
            refine lv_bipush (v := (6 : Int32)) hx hb d_Mo_flex_53 (by decide) ?_
            refine lv_iload_n hx hb d_Mo_flex_55 rfl (lv_at hl 2 rfl) ?_
            refine lv_imul hx hb d_Mo_flex_56 ?_
            refine lv_iadd hx hb d_Mo_flex_57 ?_
            refine lv_iload_n hx hb d_Mo_flex_58 rfl (lv_at hl 3 rfl) ?_
            refine lv_iadd hx hb d_Mo_flex_59 ?_
            refine lv_iload hx hb d_Mo_flex_60 (lv_at hl 4 rfl) ?_
            obtain ⟨h62, hw⟩ := hw
            refine va_iast (f := ai 3) hx hb hK hP hD hS 3 0 rfl rfl h62 d_Mo_flex_62 (fun H locs hP hD hS => ?_)
            have hP := mwpai_3 hP
            have hD := mwdai_3 hD
            obtain ⟨ai_62, eai_62⟩ : ∃ z, z = va_up ai 3 (upd (ai 3) ((((36 : Int32) * p0) + ((6 : Int32) * p1)) + p2).toNatClampNeg p3) := ⟨_, rfl⟩
            rw [← eai_62] at hP hD
            have hw := zw_nm_x eai_62 hw
            refine lv_iconst (v := (1 : Int32)) hx hb d_Mo_flex_63 (by decide) ?_
            exact W.zret (v := (1 : Int32)) (ty := .boolean) hx hb hr rfl (fun t ht hW => ⟨⟨(1 : Int32), (fi, fl, ai_62, al), rfl, ⟨rfl, rfl, rfl, hw⟩, by rw [ht]; exact hP, va_K.moved hW.alike hK, hD⟩, hS.F ht⟩) hS.2.2 d_Mo_flex_64
          · have hw := zw_ite_t c40 hw
            refine lv_iconst (v := (0 : Int32)) hx hb d_Mo_flex_43 (by decide) ?_
            exact W.zret (v := (0 : Int32)) (ty := .boolean) hx hb hr rfl (fun t ht hW => ⟨⟨(0 : Int32), (fi, fl, ai, al), rfl, ⟨rfl, rfl, rfl, hw⟩, by rw [ht]; exact hP, va_K.moved hW.alike hK, hD⟩, hS.F ht⟩) hS.2.2 d_Mo_flex_44
  rw [hH, hlo] at key
  exact key
def Mo_share_w (fi : Nat → Int32) (fl : Nat → Int64) (ai : Nat → Nat → Int32) (al : Nat → Nat → Int64) (p0 : Int32) (p1 : Int32) (p2 : Int32) (K : Int32 → (Nat → Nat → Int32) → Prop) : Prop :=
  Mo_in_w p0.toInt64 (0 : Int64) (2 : Int64) (fun (r6 : Int32) =>
  if r6 = 0 then (
    K (0 : Int32) ai)
  else (
    Mo_isPart_w fi fl ai al p1 (fun (r14 : Int32) =>
    if r14 = 0 then (
      K (0 : Int32) ai)
    else (
      Mo_in_w p2.toInt64 (-1000 : Int64) (1000 : Int64) (fun (r28 : Int32) =>
      if r28 = 0 then (
        K (0 : Int32) ai)
      else (
        vp_in (((6 : Int32) * p0) + p1) 18 ∧ (zw_nm (va_up ai 4 (upd (ai 4) (((6 : Int32) * p0) + p1).toNatClampNeg p2)) (fun (ai_47 : Nat → Nat → Int32) =>
        K (1 : Int32) ai_47))))))))
theorem d_Mo_share_0 : decode b_Mo_share 0 = .ok (.iload_n 1, 1) := by decide +kernel
theorem d_Mo_share_1 : decode b_Mo_share 1 = .ok (.i2l, 1) := by decide +kernel
theorem d_Mo_share_2 : decode b_Mo_share 2 = .ok (.lconst 0, 1) := by decide +kernel
theorem d_Mo_share_3 : decode b_Mo_share 3 = .ok (.ldc2_w 124, 3) := by decide +kernel
theorem d_Mo_share_6 : decode b_Mo_share 6 = .ok (.invokestatic 103, 3) := by decide +kernel
theorem d_Mo_share_9 : decode b_Mo_share 9 = .ok (.ifCond .eq (25), 3) := by decide +kernel
theorem d_Mo_share_12 : decode b_Mo_share 12 = .ok (.aload_n 0, 1) := by decide +kernel
theorem d_Mo_share_13 : decode b_Mo_share 13 = .ok (.iload_n 2, 1) := by decide +kernel
theorem d_Mo_share_14 : decode b_Mo_share 14 = .ok (.invokevirtual 110, 3) := by decide +kernel
theorem d_Mo_share_17 : decode b_Mo_share 17 = .ok (.ifCond .eq (17), 3) := by decide +kernel
theorem d_Mo_share_20 : decode b_Mo_share 20 = .ok (.iload_n 3, 1) := by decide +kernel
theorem d_Mo_share_21 : decode b_Mo_share 21 = .ok (.i2l, 1) := by decide +kernel
theorem d_Mo_share_22 : decode b_Mo_share 22 = .ok (.ldc2_w 122, 3) := by decide +kernel
theorem d_Mo_share_25 : decode b_Mo_share 25 = .ok (.ldc2_w 114, 3) := by decide +kernel
theorem d_Mo_share_28 : decode b_Mo_share 28 = .ok (.invokestatic 103, 3) := by decide +kernel
theorem d_Mo_share_31 : decode b_Mo_share 31 = .ok (.ifCond .ne (5), 3) := by decide +kernel
theorem d_Mo_share_34 : decode b_Mo_share 34 = .ok (.iconst 0, 1) := by decide +kernel
theorem d_Mo_share_35 : decode b_Mo_share 35 = .ok (.ireturn, 1) := by decide +kernel
theorem d_Mo_share_36 : decode b_Mo_share 36 = .ok (.aload_n 0, 1) := by decide +kernel
theorem d_Mo_share_37 : decode b_Mo_share 37 = .ok (.getfield 19, 3) := by decide +kernel
theorem d_Mo_share_40 : decode b_Mo_share 40 = .ok (.bipush (6), 2) := by decide +kernel
theorem d_Mo_share_42 : decode b_Mo_share 42 = .ok (.iload_n 1, 1) := by decide +kernel
theorem d_Mo_share_43 : decode b_Mo_share 43 = .ok (.imul, 1) := by decide +kernel
theorem d_Mo_share_44 : decode b_Mo_share 44 = .ok (.iload_n 2, 1) := by decide +kernel
theorem d_Mo_share_45 : decode b_Mo_share 45 = .ok (.iadd, 1) := by decide +kernel
theorem d_Mo_share_46 : decode b_Mo_share 46 = .ok (.iload_n 3, 1) := by decide +kernel
theorem d_Mo_share_47 : decode b_Mo_share 47 = .ok (.iastore, 1) := by decide +kernel
theorem d_Mo_share_48 : decode b_Mo_share 48 = .ok (.iconst 1, 1) := by decide +kernel
theorem d_Mo_share_49 : decode b_Mo_share 49 = .ok (.ireturn, 1) := by decide +kernel
set_option maxHeartbeats 4000000 in
set_option maxRecDepth 100000 in
theorem c_Mo_share (l : Launch) (dC : Nat → ClassId) (dI : Nat → Nat → Nat) (cI cJ cG cZ : ClassId) (a : Nat → Nat) (sz : Nat) (fi : Nat → Int32) (fl : Nat → Int64) (ai : Nat → Nat → Int32) (al : Nat → Nat → Int64) (p0 : Int32) (p1 : Int32) (p2 : Int32) (K : Int32 → (Nat → Nat → Int32) → Prop) (hw : Mo_share_w fi fl ai al p0 p1 p2 K) : Met l y_Mo_share ws_Mo_share ({ frames := 2, cells := 0, slots := 0, locals := 46 }) (va_Pc [.ref (a 0), .int p0, .int p1, .int p2] (zw_Bw (dC, dI) vwCl [(cI, .int), (cJ, .long), (cG, .array .int), (cZ, .boolean)] (mw cI cJ cG cZ a fi fl ai al) sz)) (va_Qi (fun r (u : zw_Z) => (zw_k_air fi fl al K) r u.1 u.2.1 u.2.2.1 u.2.2.2) (fun u t => zw_E (dC, dI) vwCl [(cI, .int), (cJ, .long), (cG, .array .int), (cZ, .boolean)] (va_A (mw cI cJ cG cZ a fi fl ai al) sz) (mw cI cJ cG cZ a u.1 u.2.1 u.2.2.1 u.2.2.2) t) (va_A (mw cI cJ cG cZ a fi fl ai al) sz)) 0 0 (va_A (mw cI cJ cG cZ a fi fl ai al) sz) := by
  refine Met.ofW (cc := b_Mo_share) (maxL := 4) (ret := (Option.some FieldType.boolean)) (by decide) rfl ?_
  intro p e s m args below meth c s₁ B hml hv
  obtain ⟨rfl, hsz, hP, hK, hD0, hN⟩ := hv
  have hx := B.exec
  have hb := B.bytes
  have hr := B.returns
  have hts := atoms_spec (ws := ws_Mo_share) B.pre
  have ht : ∀ w ∈ zw_tbl, w.before _ s = true := fun w h => hts w (List.mem_cons_of_mem _ h)
  have hown : s.vm.findClass R_Mo = some m.cls := findClass_of_methodNamed B.named
  have hlocks := B.notSynchronized
  subst hsz
  have hD := hD0.self (sz := s.heap.size)
  generalize hAe : va_A (mw cI cJ cG cZ a fi fl ai al) s.heap.size = A at hD ⊢
  have hA : ∀ q : Nat, s.heap.size ≤ q → A q := fun q h => by rw [← hAe]; exact Or.inr h
  have hS : va_S A s.heap s.heap [] := va_S.rf
  have hl := lv_entry ([.ref (a 0), .int p0, .int p1, .int p2] : List Value) (n := 4) (Nat.le_of_ble_eq_true rfl)
  rw [lg_entry_eq]
  generalize (lg_sl ([.ref (a 0), .int p0, .int p1, .int p2] : List Value) ++ List.replicate (4 - (lg_sl ([.ref (a 0), .int p0, .int p1, .int p2] : List Value)).length) Slot.unset).toArray = ls at hl ⊢
  have hl : lv_has ls 4 [(0, .ref (a 0)), (1, .int p0), (2, .int p1), (3, .int p2)] := hl
  unfold Mo_share_w at hw
  obtain ⟨H, hH⟩ : ∃ H, H = s.heap := ⟨_, rfl⟩
  obtain ⟨locs, hlo⟩ : ∃ q : List Loc, q = [] := ⟨_, rfl⟩
  have hP : va_P (dC, dI) vwCl (mw cI cJ cG cZ a fi fl ai al) H := by rw [hH]; exact hP
  have hS : va_S A s.heap H locs := by rw [hH, hlo]; exact hS
  have key : W p l e (headSpec ws_Mo_share ({ frames := 2, cells := 0, slots := 0, locals := 46 })).room s m ([.ref (a 0), .int p0, .int p1, .int p2] : List Value).toArray below meth c H locs 0 0 (MQ below (va_Qi (fun r (u : zw_Z) => (zw_k_air fi fl al K) r u.1 u.2.1 u.2.2.1 u.2.2.2) (fun u t => zw_E (dC, dI) vwCl [(cI, .int), (cJ, .long), (cG, .array .int), (cZ, .boolean)] A (mw cI cJ cG cZ a u.1 u.2.1 u.2.2.1 u.2.2.2) t) A) ([.ref (a 0), .int p0, .int p1, .int p2] : List Value).toArray s 0 0 A) (F0 m 0 ls []) := by
    refine lv_iload_n hx hb d_Mo_share_0 rfl (lv_at hl 1 rfl) ?_
    refine lv_i2l hx hb d_Mo_share_1 rfl ?_
    refine lv_lconst (v := (0 : Int64)) hx hb d_Mo_share_2 (by decide) ?_
    refine lv_ldc2 (v := (2 : Int64)) hx hb hown (hts (.constantLong R_Mo 124 (2 : Int64)) (by decide +kernel)) d_Mo_share_3 ?_
    refine vp_callSi (va_Run.run (va_runS (As := [.long p0.toInt64, .long (0 : Int64), .long (2 : Int64)]) (rest := []) ⟨hx, hb, hml, hown, hts⟩ (c_Mo_in l p0.toInt64 (0 : Int64) (2 : Int64) _ hw) (va_cwS 3 hts (zw_goodS kw_731 kw_732 kw_9 kw_733) rfl rfl rfl hd_Mo_in.2 ⟨Nat.le_of_ble_eq_true rfl, Nat.le_of_ble_eq_true rfl⟩) zw_preS0 rfl rfl hl.1 rfl (lv_room (Nat.le_of_ble_eq_true rfl)) d_Mo_share_6 ⟨Nat.le_of_ble_eq_true rfl, Nat.le_of_ble_eq_true rfl⟩)) (fun r6 hw => ?_)
    refine lv_if_eq (tgt := 34) hx hb d_Mo_share_9 (by decide) (fun c9 => ?_) (fun c9 => ?_)
    · have hw := zw_ite_t c9 hw
      refine lv_iconst (v := (0 : Int32)) hx hb d_Mo_share_34 (by decide) ?_
      exact W.zret (v := (0 : Int32)) (ty := .boolean) hx hb hr rfl (fun t ht hW => ⟨⟨(0 : Int32), (fi, fl, ai, al), rfl, ⟨rfl, rfl, rfl, hw⟩, by rw [ht]; exact hP, va_K.moved hW.alike hK, hD⟩, hS.F ht⟩) hS.2.2 d_Mo_share_35
    · have hw := zw_ite_f c9 hw
      refine lv_aload_n hx hb d_Mo_share_12 rfl (lv_at hl 0 rfl) ?_
      refine lv_iload_n hx hb d_Mo_share_13 rfl (lv_at hl 2 rfl) ?_
      refine vp_callSi (va_Run.run (va_runV (As := [.int p1]) (rest := []) ⟨hx, hb, hml, hown, hts⟩ (c_Mo_isPart l dC dI cI cJ cG cZ a fi fl ai al p1 _ hw) (cwV 1 hts (zw_goodV kw_727 kw_729 kw_s16 kw_9 kw_730) rfl rfl rfl hd_Mo_isPart ⟨Nat.le_of_ble_eq_true rfl, Nat.le_of_ble_eq_true rfl⟩) (zw_preV (ci := 7) (q0 := 0) hK hN hP rfl rfl) rfl rfl hl.1 rfl (lv_room (Nat.le_of_ble_eq_true rfl)) d_Mo_share_14 ⟨Nat.le_of_ble_eq_true rfl, Nat.le_of_ble_eq_true rfl⟩)) (fun r14 hw => ?_)
      refine lv_if_eq (tgt := 34) hx hb d_Mo_share_17 (by decide) (fun c17 => ?_) (fun c17 => ?_)
      · have hw := zw_ite_t c17 hw
        refine lv_iconst (v := (0 : Int32)) hx hb d_Mo_share_34 (by decide) ?_
        exact W.zret (v := (0 : Int32)) (ty := .boolean) hx hb hr rfl (fun t ht hW => ⟨⟨(0 : Int32), (fi, fl, ai, al), rfl, ⟨rfl, rfl, rfl, hw⟩, by rw [ht]; exact hP, va_K.moved hW.alike hK, hD⟩, hS.F ht⟩) hS.2.2 d_Mo_share_35
      · have hw := zw_ite_f c17 hw
        refine lv_iload_n hx hb d_Mo_share_20 rfl (lv_at hl 3 rfl) ?_
        refine lv_i2l hx hb d_Mo_share_21 rfl ?_
        refine lv_ldc2 (v := (-1000 : Int64)) hx hb hown (hts (.constantLong R_Mo 122 (-1000 : Int64)) (by decide +kernel)) d_Mo_share_22 ?_
        refine lv_ldc2 (v := (1000 : Int64)) hx hb hown (hts (.constantLong R_Mo 114 (1000 : Int64)) (by decide +kernel)) d_Mo_share_25 ?_
        refine vp_callSi (va_Run.run (va_runS (As := [.long p2.toInt64, .long (-1000 : Int64), .long (1000 : Int64)]) (rest := []) ⟨hx, hb, hml, hown, hts⟩ (c_Mo_in l p2.toInt64 (-1000 : Int64) (1000 : Int64) _ hw) (va_cwS 3 hts (zw_goodS kw_731 kw_732 kw_9 kw_733) rfl rfl rfl hd_Mo_in.2 ⟨Nat.le_of_ble_eq_true rfl, Nat.le_of_ble_eq_true rfl⟩) zw_preS0 rfl rfl hl.1 rfl (lv_room (Nat.le_of_ble_eq_true rfl)) d_Mo_share_28 ⟨Nat.le_of_ble_eq_true rfl, Nat.le_of_ble_eq_true rfl⟩)) (fun r28 hw => ?_)
        refine lv_if_ne (tgt := 36) hx hb d_Mo_share_31 (by decide) (fun c31 => ?_) (fun c31 => ?_)
        · have hw := zw_ite_f c31 hw
          refine lv_aload_n hx hb d_Mo_share_36 rfl (lv_at hl 0 rfl) ?_
          refine va_get (D := (dC, dI)) (ci := 7) (v := .ref (a 4)) (C := R_Mo) (T := T_Mo) (N := 36) hx hb ht in_Mo hown hK hP 0 rfl rfl 4 (by decide) (ht _ kw_617) (fun _ h9 => h9) rfl d_Mo_share_37 ?_
          refine lv_bipush (v := (6 : Int32)) hx hb d_Mo_share_40 (by decide) ?_
          refine lv_iload_n hx hb d_Mo_share_42 rfl (lv_at hl 1 rfl) ?_
          refine lv_imul hx hb d_Mo_share_43 ?_
          refine lv_iload_n hx hb d_Mo_share_44 rfl (lv_at hl 2 rfl) ?_
          refine lv_iadd hx hb d_Mo_share_45 ?_
          refine lv_iload_n hx hb d_Mo_share_46 rfl (lv_at hl 3 rfl) ?_
          obtain ⟨h47, hw⟩ := hw
          refine va_iast (f := ai 4) hx hb hK hP hD hS 4 0 rfl rfl h47 d_Mo_share_47 (fun H locs hP hD hS => ?_)
          have hP := mwpai_4 hP
          have hD := mwdai_4 hD
          obtain ⟨ai_47, eai_47⟩ : ∃ z, z = va_up ai 4 (upd (ai 4) (((6 : Int32) * p0) + p1).toNatClampNeg p2) := ⟨_, rfl⟩
          rw [← eai_47] at hP hD
          have hw := zw_nm_x eai_47 hw
          refine lv_iconst (v := (1 : Int32)) hx hb d_Mo_share_48 (by decide) ?_
          exact W.zret (v := (1 : Int32)) (ty := .boolean) hx hb hr rfl (fun t ht hW => ⟨⟨(1 : Int32), (fi, fl, ai_47, al), rfl, ⟨rfl, rfl, rfl, hw⟩, by rw [ht]; exact hP, va_K.moved hW.alike hK, hD⟩, hS.F ht⟩) hS.2.2 d_Mo_share_49
        · have hw := zw_ite_t c31 hw
          refine lv_iconst (v := (0 : Int32)) hx hb d_Mo_share_34 (by decide) ?_
          exact W.zret (v := (0 : Int32)) (ty := .boolean) hx hb hr rfl (fun t ht hW => ⟨⟨(0 : Int32), (fi, fl, ai, al), rfl, ⟨rfl, rfl, rfl, hw⟩, by rw [ht]; exact hP, va_K.moved hW.alike hK, hD⟩, hS.F ht⟩) hS.2.2 d_Mo_share_35
  rw [hH, hlo] at key
  exact key
def Mo_release_w (fi : Nat → Int32) (fl : Nat → Int64) (ai : Nat → Nat → Int32) (al : Nat → Nat → Int64) (p0 : Int32) (p1 : Int32) (p2 : Int32) (K : Int32 → (Nat → Nat → Int32) → Prop) : Prop :=
  Mo_in_w p0.toInt64 (0 : Int64) (2 : Int64) (fun (r6 : Int32) =>
  if r6 = 0 then (
    K (0 : Int32) ai)
  else (
    Mo_isPart_w fi fl ai al p1 (fun (r14 : Int32) =>
    if r14 = 0 then (
      K (0 : Int32) ai)
    else (
      Mo_in_w p2.toInt64 (-1000 : Int64) (1000 : Int64) (fun (r28 : Int32) =>
      if r28 = 0 then (
        K (0 : Int32) ai)
      else (
        vp_in (((6 : Int32) * p0) + p1) 18 ∧ (zw_nm (va_up ai 5 (upd (ai 5) (((6 : Int32) * p0) + p1).toNatClampNeg p2)) (fun (ai_47 : Nat → Nat → Int32) =>
        K (1 : Int32) ai_47))))))))
theorem d_Mo_release_0 : decode b_Mo_release 0 = .ok (.iload_n 1, 1) := by decide +kernel
theorem d_Mo_release_1 : decode b_Mo_release 1 = .ok (.i2l, 1) := by decide +kernel
theorem d_Mo_release_2 : decode b_Mo_release 2 = .ok (.lconst 0, 1) := by decide +kernel
theorem d_Mo_release_3 : decode b_Mo_release 3 = .ok (.ldc2_w 124, 3) := by decide +kernel
theorem d_Mo_release_6 : decode b_Mo_release 6 = .ok (.invokestatic 103, 3) := by decide +kernel
theorem d_Mo_release_9 : decode b_Mo_release 9 = .ok (.ifCond .eq (25), 3) := by decide +kernel
theorem d_Mo_release_12 : decode b_Mo_release 12 = .ok (.aload_n 0, 1) := by decide +kernel
theorem d_Mo_release_13 : decode b_Mo_release 13 = .ok (.iload_n 2, 1) := by decide +kernel
theorem d_Mo_release_14 : decode b_Mo_release 14 = .ok (.invokevirtual 110, 3) := by decide +kernel
theorem d_Mo_release_17 : decode b_Mo_release 17 = .ok (.ifCond .eq (17), 3) := by decide +kernel
theorem d_Mo_release_20 : decode b_Mo_release 20 = .ok (.iload_n 3, 1) := by decide +kernel
theorem d_Mo_release_21 : decode b_Mo_release 21 = .ok (.i2l, 1) := by decide +kernel
theorem d_Mo_release_22 : decode b_Mo_release 22 = .ok (.ldc2_w 122, 3) := by decide +kernel
theorem d_Mo_release_25 : decode b_Mo_release 25 = .ok (.ldc2_w 114, 3) := by decide +kernel
theorem d_Mo_release_28 : decode b_Mo_release 28 = .ok (.invokestatic 103, 3) := by decide +kernel
theorem d_Mo_release_31 : decode b_Mo_release 31 = .ok (.ifCond .ne (5), 3) := by decide +kernel
theorem d_Mo_release_34 : decode b_Mo_release 34 = .ok (.iconst 0, 1) := by decide +kernel
theorem d_Mo_release_35 : decode b_Mo_release 35 = .ok (.ireturn, 1) := by decide +kernel
theorem d_Mo_release_36 : decode b_Mo_release 36 = .ok (.aload_n 0, 1) := by decide +kernel
theorem d_Mo_release_37 : decode b_Mo_release 37 = .ok (.getfield 22, 3) := by decide +kernel
theorem d_Mo_release_40 : decode b_Mo_release 40 = .ok (.bipush (6), 2) := by decide +kernel
theorem d_Mo_release_42 : decode b_Mo_release 42 = .ok (.iload_n 1, 1) := by decide +kernel
theorem d_Mo_release_43 : decode b_Mo_release 43 = .ok (.imul, 1) := by decide +kernel
theorem d_Mo_release_44 : decode b_Mo_release 44 = .ok (.iload_n 2, 1) := by decide +kernel
theorem d_Mo_release_45 : decode b_Mo_release 45 = .ok (.iadd, 1) := by decide +kernel
theorem d_Mo_release_46 : decode b_Mo_release 46 = .ok (.iload_n 3, 1) := by decide +kernel
theorem d_Mo_release_47 : decode b_Mo_release 47 = .ok (.iastore, 1) := by decide +kernel
theorem d_Mo_release_48 : decode b_Mo_release 48 = .ok (.iconst 1, 1) := by decide +kernel
theorem d_Mo_release_49 : decode b_Mo_release 49 = .ok (.ireturn, 1) := by decide +kernel
set_option maxHeartbeats 4000000 in
set_option maxRecDepth 100000 in
theorem c_Mo_release (l : Launch) (dC : Nat → ClassId) (dI : Nat → Nat → Nat) (cI cJ cG cZ : ClassId) (a : Nat → Nat) (sz : Nat) (fi : Nat → Int32) (fl : Nat → Int64) (ai : Nat → Nat → Int32) (al : Nat → Nat → Int64) (p0 : Int32) (p1 : Int32) (p2 : Int32) (K : Int32 → (Nat → Nat → Int32) → Prop) (hw : Mo_release_w fi fl ai al p0 p1 p2 K) : Met l y_Mo_release ws_Mo_release ({ frames := 2, cells := 0, slots := 0, locals := 46 }) (va_Pc [.ref (a 0), .int p0, .int p1, .int p2] (zw_Bw (dC, dI) vwCl [(cI, .int), (cJ, .long), (cG, .array .int), (cZ, .boolean)] (mw cI cJ cG cZ a fi fl ai al) sz)) (va_Qi (fun r (u : zw_Z) => (zw_k_air fi fl al K) r u.1 u.2.1 u.2.2.1 u.2.2.2) (fun u t => zw_E (dC, dI) vwCl [(cI, .int), (cJ, .long), (cG, .array .int), (cZ, .boolean)] (va_A (mw cI cJ cG cZ a fi fl ai al) sz) (mw cI cJ cG cZ a u.1 u.2.1 u.2.2.1 u.2.2.2) t) (va_A (mw cI cJ cG cZ a fi fl ai al) sz)) 0 0 (va_A (mw cI cJ cG cZ a fi fl ai al) sz) := by
  refine Met.ofW (cc := b_Mo_release) (maxL := 4) (ret := (Option.some FieldType.boolean)) (by decide) rfl ?_
  intro p e s m args below meth c s₁ B hml hv
  obtain ⟨rfl, hsz, hP, hK, hD0, hN⟩ := hv
  have hx := B.exec
  have hb := B.bytes
  have hr := B.returns
  have hts := atoms_spec (ws := ws_Mo_release) B.pre
  have ht : ∀ w ∈ zw_tbl, w.before _ s = true := fun w h => hts w (List.mem_cons_of_mem _ h)
  have hown : s.vm.findClass R_Mo = some m.cls := findClass_of_methodNamed B.named
  have hlocks := B.notSynchronized
  subst hsz
  have hD := hD0.self (sz := s.heap.size)
  generalize hAe : va_A (mw cI cJ cG cZ a fi fl ai al) s.heap.size = A at hD ⊢
  have hA : ∀ q : Nat, s.heap.size ≤ q → A q := fun q h => by rw [← hAe]; exact Or.inr h
  have hS : va_S A s.heap s.heap [] := va_S.rf
  have hl := lv_entry ([.ref (a 0), .int p0, .int p1, .int p2] : List Value) (n := 4) (Nat.le_of_ble_eq_true rfl)
  rw [lg_entry_eq]
  generalize (lg_sl ([.ref (a 0), .int p0, .int p1, .int p2] : List Value) ++ List.replicate (4 - (lg_sl ([.ref (a 0), .int p0, .int p1, .int p2] : List Value)).length) Slot.unset).toArray = ls at hl ⊢
  have hl : lv_has ls 4 [(0, .ref (a 0)), (1, .int p0), (2, .int p1), (3, .int p2)] := hl
  unfold Mo_release_w at hw
  obtain ⟨H, hH⟩ : ∃ H, H = s.heap := ⟨_, rfl⟩
  obtain ⟨locs, hlo⟩ : ∃ q : List Loc, q = [] := ⟨_, rfl⟩
  have hP : va_P (dC, dI) vwCl (mw cI cJ cG cZ a fi fl ai al) H := by rw [hH]; exact hP
  have hS : va_S A s.heap H locs := by rw [hH, hlo]; exact hS
  have key : W p l e (headSpec ws_Mo_release ({ frames := 2, cells := 0, slots := 0, locals := 46 })).room s m ([.ref (a 0), .int p0, .int p1, .int p2] : List Value).toArray below meth c H locs 0 0 (MQ below (va_Qi (fun r (u : zw_Z) => (zw_k_air fi fl al K) r u.1 u.2.1 u.2.2.1 u.2.2.2) (fun u t => zw_E (dC, dI) vwCl [(cI, .int), (cJ, .long), (cG, .array .int), (cZ, .boolean)] A (mw cI cJ cG cZ a u.1 u.2.1 u.2.2.1 u.2.2.2) t) A) ([.ref (a 0), .int p0, .int p1, .int p2] : List Value).toArray s 0 0 A) (F0 m 0 ls []) := by
    refine lv_iload_n hx hb d_Mo_release_0 rfl (lv_at hl 1 rfl) ?_
    refine lv_i2l hx hb d_Mo_release_1 rfl ?_
    refine lv_lconst (v := (0 : Int64)) hx hb d_Mo_release_2 (by decide) ?_
    refine lv_ldc2 (v := (2 : Int64)) hx hb hown (hts (.constantLong R_Mo 124 (2 : Int64)) (by decide +kernel)) d_Mo_release_3 ?_
    refine vp_callSi (va_Run.run (va_runS (As := [.long p0.toInt64, .long (0 : Int64), .long (2 : Int64)]) (rest := []) ⟨hx, hb, hml, hown, hts⟩ (c_Mo_in l p0.toInt64 (0 : Int64) (2 : Int64) _ hw) (va_cwS 3 hts (zw_goodS kw_731 kw_732 kw_9 kw_733) rfl rfl rfl hd_Mo_in.2 ⟨Nat.le_of_ble_eq_true rfl, Nat.le_of_ble_eq_true rfl⟩) zw_preS0 rfl rfl hl.1 rfl (lv_room (Nat.le_of_ble_eq_true rfl)) d_Mo_release_6 ⟨Nat.le_of_ble_eq_true rfl, Nat.le_of_ble_eq_true rfl⟩)) (fun r6 hw => ?_)
    refine lv_if_eq (tgt := 34) hx hb d_Mo_release_9 (by decide) (fun c9 => ?_) (fun c9 => ?_)
    · have hw := zw_ite_t c9 hw
      refine lv_iconst (v := (0 : Int32)) hx hb d_Mo_release_34 (by decide) ?_
      exact W.zret (v := (0 : Int32)) (ty := .boolean) hx hb hr rfl (fun t ht hW => ⟨⟨(0 : Int32), (fi, fl, ai, al), rfl, ⟨rfl, rfl, rfl, hw⟩, by rw [ht]; exact hP, va_K.moved hW.alike hK, hD⟩, hS.F ht⟩) hS.2.2 d_Mo_release_35
    · have hw := zw_ite_f c9 hw
      refine lv_aload_n hx hb d_Mo_release_12 rfl (lv_at hl 0 rfl) ?_
      refine lv_iload_n hx hb d_Mo_release_13 rfl (lv_at hl 2 rfl) ?_
      refine vp_callSi (va_Run.run (va_runV (As := [.int p1]) (rest := []) ⟨hx, hb, hml, hown, hts⟩ (c_Mo_isPart l dC dI cI cJ cG cZ a fi fl ai al p1 _ hw) (cwV 1 hts (zw_goodV kw_727 kw_729 kw_s16 kw_9 kw_730) rfl rfl rfl hd_Mo_isPart ⟨Nat.le_of_ble_eq_true rfl, Nat.le_of_ble_eq_true rfl⟩) (zw_preV (ci := 7) (q0 := 0) hK hN hP rfl rfl) rfl rfl hl.1 rfl (lv_room (Nat.le_of_ble_eq_true rfl)) d_Mo_release_14 ⟨Nat.le_of_ble_eq_true rfl, Nat.le_of_ble_eq_true rfl⟩)) (fun r14 hw => ?_)
      refine lv_if_eq (tgt := 34) hx hb d_Mo_release_17 (by decide) (fun c17 => ?_) (fun c17 => ?_)
      · have hw := zw_ite_t c17 hw
        refine lv_iconst (v := (0 : Int32)) hx hb d_Mo_release_34 (by decide) ?_
        exact W.zret (v := (0 : Int32)) (ty := .boolean) hx hb hr rfl (fun t ht hW => ⟨⟨(0 : Int32), (fi, fl, ai, al), rfl, ⟨rfl, rfl, rfl, hw⟩, by rw [ht]; exact hP, va_K.moved hW.alike hK, hD⟩, hS.F ht⟩) hS.2.2 d_Mo_release_35
      · have hw := zw_ite_f c17 hw
        refine lv_iload_n hx hb d_Mo_release_20 rfl (lv_at hl 3 rfl) ?_
        refine lv_i2l hx hb d_Mo_release_21 rfl ?_
        refine lv_ldc2 (v := (-1000 : Int64)) hx hb hown (hts (.constantLong R_Mo 122 (-1000 : Int64)) (by decide +kernel)) d_Mo_release_22 ?_
        refine lv_ldc2 (v := (1000 : Int64)) hx hb hown (hts (.constantLong R_Mo 114 (1000 : Int64)) (by decide +kernel)) d_Mo_release_25 ?_
        refine vp_callSi (va_Run.run (va_runS (As := [.long p2.toInt64, .long (-1000 : Int64), .long (1000 : Int64)]) (rest := []) ⟨hx, hb, hml, hown, hts⟩ (c_Mo_in l p2.toInt64 (-1000 : Int64) (1000 : Int64) _ hw) (va_cwS 3 hts (zw_goodS kw_731 kw_732 kw_9 kw_733) rfl rfl rfl hd_Mo_in.2 ⟨Nat.le_of_ble_eq_true rfl, Nat.le_of_ble_eq_true rfl⟩) zw_preS0 rfl rfl hl.1 rfl (lv_room (Nat.le_of_ble_eq_true rfl)) d_Mo_release_28 ⟨Nat.le_of_ble_eq_true rfl, Nat.le_of_ble_eq_true rfl⟩)) (fun r28 hw => ?_)
        refine lv_if_ne (tgt := 36) hx hb d_Mo_release_31 (by decide) (fun c31 => ?_) (fun c31 => ?_)
        · have hw := zw_ite_f c31 hw
          refine lv_aload_n hx hb d_Mo_release_36 rfl (lv_at hl 0 rfl) ?_
          refine va_get (D := (dC, dI)) (ci := 7) (v := .ref (a 5)) (C := R_Mo) (T := T_Mo) (N := 36) hx hb ht in_Mo hown hK hP 0 rfl rfl 5 (by decide) (ht _ kw_618) (fun _ h9 => h9) rfl d_Mo_release_37 ?_
          refine lv_bipush (v := (6 : Int32)) hx hb d_Mo_release_40 (by decide) ?_
          refine lv_iload_n hx hb d_Mo_release_42 rfl (lv_at hl 1 rfl) ?_
          refine lv_imul hx hb d_Mo_release_43 ?_
          refine lv_iload_n hx hb d_Mo_release_44 rfl (lv_at hl 2 rfl) ?_
          refine lv_iadd hx hb d_Mo_release_45 ?_
          refine lv_iload_n hx hb d_Mo_release_46 rfl (lv_at hl 3 rfl) ?_
          obtain ⟨h47, hw⟩ := hw
          refine va_iast (f := ai 5) hx hb hK hP hD hS 5 0 rfl rfl h47 d_Mo_release_47 (fun H locs hP hD hS => ?_)
          have hP := mwpai_5 hP
          have hD := mwdai_5 hD
          obtain ⟨ai_47, eai_47⟩ : ∃ z, z = va_up ai 5 (upd (ai 5) (((6 : Int32) * p0) + p1).toNatClampNeg p2) := ⟨_, rfl⟩
          rw [← eai_47] at hP hD
          have hw := zw_nm_x eai_47 hw
          refine lv_iconst (v := (1 : Int32)) hx hb d_Mo_release_48 (by decide) ?_
          exact W.zret (v := (1 : Int32)) (ty := .boolean) hx hb hr rfl (fun t ht hW => ⟨⟨(1 : Int32), (fi, fl, ai_47, al), rfl, ⟨rfl, rfl, rfl, hw⟩, by rw [ht]; exact hP, va_K.moved hW.alike hK, hD⟩, hS.F ht⟩) hS.2.2 d_Mo_release_49
        · have hw := zw_ite_t c31 hw
          refine lv_iconst (v := (0 : Int32)) hx hb d_Mo_release_34 (by decide) ?_
          exact W.zret (v := (0 : Int32)) (ty := .boolean) hx hb hr rfl (fun t ht hW => ⟨⟨(0 : Int32), (fi, fl, ai, al), rfl, ⟨rfl, rfl, rfl, hw⟩, by rw [ht]; exact hP, va_K.moved hW.alike hK, hD⟩, hS.F ht⟩) hS.2.2 d_Mo_release_35
  rw [hH, hlo] at key
  exact key
def Mo_creep_w (fi : Nat → Int32) (fl : Nat → Int64) (ai : Nat → Nat → Int32) (al : Nat → Nat → Int64) (p0 : Int32) (p1 : Int32) (K : Int32 → (Nat → Int32) → (Nat → Nat → Int32) → Prop) : Prop :=
  zw_jn1 (fun (y42_0 : Int32) =>
  Mo_in_w p0.toInt64 (0 : Int64) (20000 : Int64) (fun (r49 : Int32) =>
  if r49 = 0 then (
    K (0 : Int32) fi ai)
  else (
    Mo_in_w p1.toInt64 (0 : Int64) (5000 : Int64) (fun (r61 : Int32) =>
    if r61 = 0 then (
      K (0 : Int32) fi ai)
    else (
      if y42_0 = 0 then (
        K (0 : Int32) fi ai)
      else (
        if (fi 1) = (8 : Int32) then (
          K (0 : Int32) fi ai)
        else (
          vp_in (fi 1) 8 ∧ (zw_nm (va_up ai 6 (upd (ai 6) (fi 1).toNatClampNeg p0)) (fun (ai_91 : Nat → Nat → Int32) =>
          vp_in (fi 1) 8 ∧ (zw_nm (va_up ai_91 7 (upd (ai_91 7) (fi 1).toNatClampNeg p1)) (fun (ai_101 : Nat → Nat → Int32) =>
          zw_nm (va_up fi 1 ((fi 1) + (1 : Int32))) (fun (fi_109 : Nat → Int32) =>
          K (1 : Int32) fi_109 ai_101)))))))))))) (fun J42 =>
  zw_jn0 (
  J42 (1 : Int32)) (fun J37 =>
  if (fi 1) = 0 then (
    J37)
  else (
    vp_in ((fi 1) - (1 : Int32)) 8 ∧ (
    zw_jn0 (
    J42 (0 : Int32)) (fun J41 =>
    if p0 ≤ (ai 6 ((fi 1) - (1 : Int32)).toNatClampNeg) then (
      J41)
    else (
      vp_in ((fi 1) - (1 : Int32)) 8 ∧ (
      if p1 < (ai 7 ((fi 1) - (1 : Int32)).toNatClampNeg) then (
        J41)
      else (
        J37))))))))
theorem d_Mo_creep_0 : decode b_Mo_creep 0 = .ok (.aload_n 0, 1) := by decide +kernel
theorem d_Mo_creep_1 : decode b_Mo_creep 1 = .ok (.getfield 126, 3) := by decide +kernel
theorem d_Mo_creep_4 : decode b_Mo_creep 4 = .ok (.ifCond .eq (33), 3) := by decide +kernel
theorem d_Mo_creep_7 : decode b_Mo_creep 7 = .ok (.iload_n 1, 1) := by decide +kernel
theorem d_Mo_creep_8 : decode b_Mo_creep 8 = .ok (.aload_n 0, 1) := by decide +kernel
theorem d_Mo_creep_9 : decode b_Mo_creep 9 = .ok (.getfield 25, 3) := by decide +kernel
theorem d_Mo_creep_12 : decode b_Mo_creep 12 = .ok (.aload_n 0, 1) := by decide +kernel
theorem d_Mo_creep_13 : decode b_Mo_creep 13 = .ok (.getfield 126, 3) := by decide +kernel
theorem d_Mo_creep_16 : decode b_Mo_creep 16 = .ok (.iconst 1, 1) := by decide +kernel
theorem d_Mo_creep_17 : decode b_Mo_creep 17 = .ok (.isub, 1) := by decide +kernel
theorem d_Mo_creep_18 : decode b_Mo_creep 18 = .ok (.iaload, 1) := by decide +kernel
theorem d_Mo_creep_19 : decode b_Mo_creep 19 = .ok (.if_icmp .le (22), 3) := by decide +kernel
theorem d_Mo_creep_22 : decode b_Mo_creep 22 = .ok (.iload_n 2, 1) := by decide +kernel
theorem d_Mo_creep_23 : decode b_Mo_creep 23 = .ok (.aload_n 0, 1) := by decide +kernel
theorem d_Mo_creep_24 : decode b_Mo_creep 24 = .ok (.getfield 28, 3) := by decide +kernel
theorem d_Mo_creep_27 : decode b_Mo_creep 27 = .ok (.aload_n 0, 1) := by decide +kernel
theorem d_Mo_creep_28 : decode b_Mo_creep 28 = .ok (.getfield 126, 3) := by decide +kernel
theorem d_Mo_creep_31 : decode b_Mo_creep 31 = .ok (.iconst 1, 1) := by decide +kernel
theorem d_Mo_creep_32 : decode b_Mo_creep 32 = .ok (.isub, 1) := by decide +kernel
theorem d_Mo_creep_33 : decode b_Mo_creep 33 = .ok (.iaload, 1) := by decide +kernel
theorem d_Mo_creep_34 : decode b_Mo_creep 34 = .ok (.if_icmp .lt (7), 3) := by decide +kernel
theorem d_Mo_creep_37 : decode b_Mo_creep 37 = .ok (.iconst 1, 1) := by decide +kernel
theorem d_Mo_creep_38 : decode b_Mo_creep 38 = .ok (.goto (4), 3) := by decide +kernel
theorem d_Mo_creep_41 : decode b_Mo_creep 41 = .ok (.iconst 0, 1) := by decide +kernel
theorem d_Mo_creep_42 : decode b_Mo_creep 42 = .ok (.istore_n 3, 1) := by decide +kernel
theorem d_Mo_creep_43 : decode b_Mo_creep 43 = .ok (.iload_n 1, 1) := by decide +kernel
theorem d_Mo_creep_44 : decode b_Mo_creep 44 = .ok (.i2l, 1) := by decide +kernel
theorem d_Mo_creep_45 : decode b_Mo_creep 45 = .ok (.lconst 0, 1) := by decide +kernel
theorem d_Mo_creep_46 : decode b_Mo_creep 46 = .ok (.ldc2_w 129, 3) := by decide +kernel
theorem d_Mo_creep_49 : decode b_Mo_creep 49 = .ok (.invokestatic 103, 3) := by decide +kernel
theorem d_Mo_creep_52 : decode b_Mo_creep 52 = .ok (.ifCond .eq (28), 3) := by decide +kernel
theorem d_Mo_creep_55 : decode b_Mo_creep 55 = .ok (.iload_n 2, 1) := by decide +kernel
theorem d_Mo_creep_56 : decode b_Mo_creep 56 = .ok (.i2l, 1) := by decide +kernel
theorem d_Mo_creep_57 : decode b_Mo_creep 57 = .ok (.lconst 0, 1) := by decide +kernel
theorem d_Mo_creep_58 : decode b_Mo_creep 58 = .ok (.ldc2_w 131, 3) := by decide +kernel
theorem d_Mo_creep_61 : decode b_Mo_creep 61 = .ok (.invokestatic 103, 3) := by decide +kernel
theorem d_Mo_creep_64 : decode b_Mo_creep 64 = .ok (.ifCond .eq (16), 3) := by decide +kernel
theorem d_Mo_creep_67 : decode b_Mo_creep 67 = .ok (.iload_n 3, 1) := by decide +kernel
theorem d_Mo_creep_68 : decode b_Mo_creep 68 = .ok (.ifCond .eq (12), 3) := by decide +kernel
theorem d_Mo_creep_71 : decode b_Mo_creep 71 = .ok (.aload_n 0, 1) := by decide +kernel
theorem d_Mo_creep_72 : decode b_Mo_creep 72 = .ok (.getfield 126, 3) := by decide +kernel
theorem d_Mo_creep_75 : decode b_Mo_creep 75 = .ok (.bipush (8), 2) := by decide +kernel
theorem d_Mo_creep_77 : decode b_Mo_creep 77 = .ok (.if_icmp .ne (5), 3) := by decide +kernel
theorem d_Mo_creep_80 : decode b_Mo_creep 80 = .ok (.iconst 0, 1) := by decide +kernel
theorem d_Mo_creep_81 : decode b_Mo_creep 81 = .ok (.ireturn, 1) := by decide +kernel
theorem d_Mo_creep_82 : decode b_Mo_creep 82 = .ok (.aload_n 0, 1) := by decide +kernel
theorem d_Mo_creep_83 : decode b_Mo_creep 83 = .ok (.getfield 25, 3) := by decide +kernel
theorem d_Mo_creep_86 : decode b_Mo_creep 86 = .ok (.aload_n 0, 1) := by decide +kernel
theorem d_Mo_creep_87 : decode b_Mo_creep 87 = .ok (.getfield 126, 3) := by decide +kernel
theorem d_Mo_creep_90 : decode b_Mo_creep 90 = .ok (.iload_n 1, 1) := by decide +kernel
theorem d_Mo_creep_91 : decode b_Mo_creep 91 = .ok (.iastore, 1) := by decide +kernel
theorem d_Mo_creep_92 : decode b_Mo_creep 92 = .ok (.aload_n 0, 1) := by decide +kernel
theorem d_Mo_creep_93 : decode b_Mo_creep 93 = .ok (.getfield 28, 3) := by decide +kernel
theorem d_Mo_creep_96 : decode b_Mo_creep 96 = .ok (.aload_n 0, 1) := by decide +kernel
theorem d_Mo_creep_97 : decode b_Mo_creep 97 = .ok (.getfield 126, 3) := by decide +kernel
theorem d_Mo_creep_100 : decode b_Mo_creep 100 = .ok (.iload_n 2, 1) := by decide +kernel
theorem d_Mo_creep_101 : decode b_Mo_creep 101 = .ok (.iastore, 1) := by decide +kernel
theorem d_Mo_creep_102 : decode b_Mo_creep 102 = .ok (.aload_n 0, 1) := by decide +kernel
theorem d_Mo_creep_103 : decode b_Mo_creep 103 = .ok (.dup, 1) := by decide +kernel
theorem d_Mo_creep_104 : decode b_Mo_creep 104 = .ok (.getfield 126, 3) := by decide +kernel
theorem d_Mo_creep_107 : decode b_Mo_creep 107 = .ok (.iconst 1, 1) := by decide +kernel
theorem d_Mo_creep_108 : decode b_Mo_creep 108 = .ok (.iadd, 1) := by decide +kernel
theorem d_Mo_creep_109 : decode b_Mo_creep 109 = .ok (.putfield 126, 3) := by decide +kernel
theorem d_Mo_creep_112 : decode b_Mo_creep 112 = .ok (.iconst 1, 1) := by decide +kernel
theorem d_Mo_creep_113 : decode b_Mo_creep 113 = .ok (.ireturn, 1) := by decide +kernel
set_option maxHeartbeats 4000000 in
set_option maxRecDepth 100000 in
theorem c_Mo_creep (l : Launch) (dC : Nat → ClassId) (dI : Nat → Nat → Nat) (cI cJ cG cZ : ClassId) (a : Nat → Nat) (sz : Nat) (fi : Nat → Int32) (fl : Nat → Int64) (ai : Nat → Nat → Int32) (al : Nat → Nat → Int64) (p0 : Int32) (p1 : Int32) (K : Int32 → (Nat → Int32) → (Nat → Nat → Int32) → Prop) (hw : Mo_creep_w fi fl ai al p0 p1 K) : Met l y_Mo_creep ws_Mo_creep ({ frames := 1, cells := 0, slots := 0, locals := 25 }) (va_Pc [.ref (a 0), .int p0, .int p1] (zw_Bw (dC, dI) vwCl [(cI, .int), (cJ, .long), (cG, .array .int), (cZ, .boolean)] (mw cI cJ cG cZ a fi fl ai al) sz)) (va_Qi (fun r (u : zw_Z) => (zw_k_fi_air fl al K) r u.1 u.2.1 u.2.2.1 u.2.2.2) (fun u t => zw_E (dC, dI) vwCl [(cI, .int), (cJ, .long), (cG, .array .int), (cZ, .boolean)] (va_A (mw cI cJ cG cZ a fi fl ai al) sz) (mw cI cJ cG cZ a u.1 u.2.1 u.2.2.1 u.2.2.2) t) (va_A (mw cI cJ cG cZ a fi fl ai al) sz)) 0 0 (va_A (mw cI cJ cG cZ a fi fl ai al) sz) := by
  refine Met.ofW (cc := b_Mo_creep) (maxL := 4) (ret := (Option.some FieldType.boolean)) (by decide) rfl ?_
  intro p e s m args below meth c s₁ B hml hv
  obtain ⟨rfl, hsz, hP, hK, hD0, hN⟩ := hv
  have hx := B.exec
  have hb := B.bytes
  have hr := B.returns
  have hts := atoms_spec (ws := ws_Mo_creep) B.pre
  have ht : ∀ w ∈ zw_tbl, w.before _ s = true := fun w h => hts w (List.mem_cons_of_mem _ h)
  have hown : s.vm.findClass R_Mo = some m.cls := findClass_of_methodNamed B.named
  have hlocks := B.notSynchronized
  subst hsz
  have hD := hD0.self (sz := s.heap.size)
  generalize hAe : va_A (mw cI cJ cG cZ a fi fl ai al) s.heap.size = A at hD ⊢
  have hA : ∀ q : Nat, s.heap.size ≤ q → A q := fun q h => by rw [← hAe]; exact Or.inr h
  have hS : va_S A s.heap s.heap [] := va_S.rf
  have hl := lv_entry ([.ref (a 0), .int p0, .int p1] : List Value) (n := 4) (Nat.le_of_ble_eq_true rfl)
  rw [lg_entry_eq]
  generalize (lg_sl ([.ref (a 0), .int p0, .int p1] : List Value) ++ List.replicate (4 - (lg_sl ([.ref (a 0), .int p0, .int p1] : List Value)).length) Slot.unset).toArray = ls at hl ⊢
  have hl : lv_has ls 4 [(0, .ref (a 0)), (1, .int p0), (2, .int p1)] := hl
  unfold Mo_creep_w at hw
  obtain ⟨H, hH⟩ : ∃ H, H = s.heap := ⟨_, rfl⟩
  obtain ⟨locs, hlo⟩ : ∃ q : List Loc, q = [] := ⟨_, rfl⟩
  have hP : va_P (dC, dI) vwCl (mw cI cJ cG cZ a fi fl ai al) H := by rw [hH]; exact hP
  have hS : va_S A s.heap H locs := by rw [hH, hlo]; exact hS
  have key : W p l e (headSpec ws_Mo_creep ({ frames := 1, cells := 0, slots := 0, locals := 25 })).room s m ([.ref (a 0), .int p0, .int p1] : List Value).toArray below meth c H locs 0 0 (MQ below (va_Qi (fun r (u : zw_Z) => (zw_k_fi_air fl al K) r u.1 u.2.1 u.2.2.1 u.2.2.2) (fun u t => zw_E (dC, dI) vwCl [(cI, .int), (cJ, .long), (cG, .array .int), (cZ, .boolean)] A (mw cI cJ cG cZ a u.1 u.2.1 u.2.2.1 u.2.2.2) t) A) ([.ref (a 0), .int p0, .int p1] : List Value).toArray s 0 0 A) (F0 m 0 ls []) := by
    refine lv_aload_n hx hb d_Mo_creep_0 rfl (lv_at hl 0 rfl) ?_
    refine va_get (D := (dC, dI)) (ci := 7) (v := .int (fi 1)) (C := R_Mo) (T := T_Mo) (N := 36) hx hb ht in_Mo hown hK hP 0 rfl rfl 8 (by decide) (ht _ kw_621) (fun _ h9 => h9) rfl d_Mo_creep_1 ?_
    refine zw_jn1_i (P := fun (y42_0 : Int32) => ∀ (H : Heap) (locs : List Loc) (ls : Array Slot), va_P (dC, dI) vwCl (mw cI cJ cG cZ a fi fl ai al) H → va_D A (mw cI cJ cG cZ a fi fl ai al) → va_S A s.heap H locs → lv_has ls 4 [(0, .ref (a 0)), (1, .int p0), (2, .int p1)] → W p l e (headSpec ws_Mo_creep ({ frames := 1, cells := 0, slots := 0, locals := 25 })).room s m ([.ref (a 0), .int p0, .int p1] : List Value).toArray below meth c H locs 0 0 (MQ below (va_Qi (fun r (u : zw_Z) => (zw_k_fi_air fl al K) r u.1 u.2.1 u.2.2.1 u.2.2.2) (fun u t => zw_E (dC, dI) vwCl [(cI, .int), (cJ, .long), (cG, .array .int), (cZ, .boolean)] A (mw cI cJ cG cZ a u.1 u.2.1 u.2.2.1 u.2.2.2) t) A) ([.ref (a 0), .int p0, .int p1] : List Value).toArray s 0 0 A) (F0 m 42 ls [.int y42_0])) hw (fun y42_0 hw H locs ls hP hD hS hl => ?_) (fun J42 hj42 hw => ?_)
    · refine lv_istore_n (lv' := [(3, .int y42_0), (0, .ref (a 0)), (1, .int p0), (2, .int p1)]) hx hb d_Mo_creep_42 rfl hl (by decide) rfl (fun ls hl => ?_)
      refine lv_iload_n hx hb d_Mo_creep_43 rfl (lv_at hl 2 rfl) ?_
      refine lv_i2l hx hb d_Mo_creep_44 rfl ?_
      refine lv_lconst (v := (0 : Int64)) hx hb d_Mo_creep_45 (by decide) ?_
      refine lv_ldc2 (v := (20000 : Int64)) hx hb hown (hts (.constantLong R_Mo 129 (20000 : Int64)) (by decide +kernel)) d_Mo_creep_46 ?_
      refine vp_callSi (va_Run.run (va_runS (As := [.long p0.toInt64, .long (0 : Int64), .long (20000 : Int64)]) (rest := []) ⟨hx, hb, hml, hown, hts⟩ (c_Mo_in l p0.toInt64 (0 : Int64) (20000 : Int64) _ hw) (va_cwS 3 hts (zw_goodS kw_731 kw_732 kw_9 kw_733) rfl rfl rfl hd_Mo_in.2 ⟨Nat.le_of_ble_eq_true rfl, Nat.le_of_ble_eq_true rfl⟩) zw_preS0 rfl rfl hl.1 rfl (lv_room (Nat.le_of_ble_eq_true rfl)) d_Mo_creep_49 ⟨Nat.le_of_ble_eq_true rfl, Nat.le_of_ble_eq_true rfl⟩)) (fun r49 hw => ?_)
      refine lv_if_eq (tgt := 80) hx hb d_Mo_creep_52 (by decide) (fun c52 => ?_) (fun c52 => ?_)
      · have hw := zw_ite_t c52 hw
        refine lv_iconst (v := (0 : Int32)) hx hb d_Mo_creep_80 (by decide) ?_
        exact W.zret (v := (0 : Int32)) (ty := .boolean) hx hb hr rfl (fun t ht hW => ⟨⟨(0 : Int32), (fi, fl, ai, al), rfl, ⟨rfl, rfl, hw⟩, by rw [ht]; exact hP, va_K.moved hW.alike hK, hD⟩, hS.F ht⟩) hS.2.2 d_Mo_creep_81
      · have hw := zw_ite_f c52 hw
        refine lv_iload_n hx hb d_Mo_creep_55 rfl (lv_at hl 3 rfl) ?_
        refine lv_i2l hx hb d_Mo_creep_56 rfl ?_
        refine lv_lconst (v := (0 : Int64)) hx hb d_Mo_creep_57 (by decide) ?_
        refine lv_ldc2 (v := (5000 : Int64)) hx hb hown (hts (.constantLong R_Mo 131 (5000 : Int64)) (by decide +kernel)) d_Mo_creep_58 ?_
        refine vp_callSi (va_Run.run (va_runS (As := [.long p1.toInt64, .long (0 : Int64), .long (5000 : Int64)]) (rest := []) ⟨hx, hb, hml, hown, hts⟩ (c_Mo_in l p1.toInt64 (0 : Int64) (5000 : Int64) _ hw) (va_cwS 3 hts (zw_goodS kw_731 kw_732 kw_9 kw_733) rfl rfl rfl hd_Mo_in.2 ⟨Nat.le_of_ble_eq_true rfl, Nat.le_of_ble_eq_true rfl⟩) zw_preS0 rfl rfl hl.1 rfl (lv_room (Nat.le_of_ble_eq_true rfl)) d_Mo_creep_61 ⟨Nat.le_of_ble_eq_true rfl, Nat.le_of_ble_eq_true rfl⟩)) (fun r61 hw => ?_)
        refine lv_if_eq (tgt := 80) hx hb d_Mo_creep_64 (by decide) (fun c64 => ?_) (fun c64 => ?_)
        · have hw := zw_ite_t c64 hw
          refine lv_iconst (v := (0 : Int32)) hx hb d_Mo_creep_80 (by decide) ?_
          exact W.zret (v := (0 : Int32)) (ty := .boolean) hx hb hr rfl (fun t ht hW => ⟨⟨(0 : Int32), (fi, fl, ai, al), rfl, ⟨rfl, rfl, hw⟩, by rw [ht]; exact hP, va_K.moved hW.alike hK, hD⟩, hS.F ht⟩) hS.2.2 d_Mo_creep_81
        · have hw := zw_ite_f c64 hw
          refine lv_iload_n hx hb d_Mo_creep_67 rfl (lv_at hl 0 rfl) ?_
          refine lv_if_eq (tgt := 80) hx hb d_Mo_creep_68 (by decide) (fun c68 => ?_) (fun c68 => ?_)
          · have hw := zw_ite_t c68 hw
            refine lv_iconst (v := (0 : Int32)) hx hb d_Mo_creep_80 (by decide) ?_
            exact W.zret (v := (0 : Int32)) (ty := .boolean) hx hb hr rfl (fun t ht hW => ⟨⟨(0 : Int32), (fi, fl, ai, al), rfl, ⟨rfl, rfl, hw⟩, by rw [ht]; exact hP, va_K.moved hW.alike hK, hD⟩, hS.F ht⟩) hS.2.2 d_Mo_creep_81
          · have hw := zw_ite_f c68 hw
            refine lv_aload_n hx hb d_Mo_creep_71 rfl (lv_at hl 1 rfl) ?_
            refine va_get (D := (dC, dI)) (ci := 7) (v := .int (fi 1)) (C := R_Mo) (T := T_Mo) (N := 36) hx hb ht in_Mo hown hK hP 0 rfl rfl 8 (by decide) (ht _ kw_621) (fun _ h9 => h9) rfl d_Mo_creep_72 ?_
            refine lv_bipush (v := (8 : Int32)) hx hb d_Mo_creep_75 (by decide) ?_
            refine lv_icmp_ne (tgt := 82) hx hb d_Mo_creep_77 (by decide) (fun c77 => ?_) (fun c77 => ?_)
            · have hw := zw_ite_f c77 hw
              refine lv_aload_n hx hb d_Mo_creep_82 rfl (lv_at hl 1 rfl) ?_
              refine va_get (D := (dC, dI)) (ci := 7) (v := .ref (a 6)) (C := R_Mo) (T := T_Mo) (N := 36) hx hb ht in_Mo hown hK hP 0 rfl rfl 6 (by decide) (ht _ kw_619) (fun _ h9 => h9) rfl d_Mo_creep_83 ?_
              refine lv_aload_n hx hb d_Mo_creep_86 rfl (lv_at hl 1 rfl) ?_
              refine va_get (D := (dC, dI)) (ci := 7) (v := .int (fi 1)) (C := R_Mo) (T := T_Mo) (N := 36) hx hb ht in_Mo hown hK hP 0 rfl rfl 8 (by decide) (ht _ kw_621) (fun _ h9 => h9) rfl d_Mo_creep_87 ?_
              refine lv_iload_n hx hb d_Mo_creep_90 rfl (lv_at hl 2 rfl) ?_
              obtain ⟨h91, hw⟩ := hw
              refine va_iast (f := ai 6) hx hb hK hP hD hS 6 0 rfl rfl h91 d_Mo_creep_91 (fun H locs hP hD hS => ?_)
              have hP := mwpai_6 hP
              have hD := mwdai_6 hD
              obtain ⟨ai_91, eai_91⟩ : ∃ z, z = va_up ai 6 (upd (ai 6) (fi 1).toNatClampNeg p0) := ⟨_, rfl⟩
              rw [← eai_91] at hP hD
              have hw := zw_nm_x eai_91 hw
              refine lv_aload_n hx hb d_Mo_creep_92 rfl (lv_at hl 1 rfl) ?_
              refine va_get (D := (dC, dI)) (ci := 7) (v := .ref (a 7)) (C := R_Mo) (T := T_Mo) (N := 36) hx hb ht in_Mo hown hK hP 0 rfl rfl 7 (by decide) (ht _ kw_620) (fun _ h9 => h9) rfl d_Mo_creep_93 ?_
              refine lv_aload_n hx hb d_Mo_creep_96 rfl (lv_at hl 1 rfl) ?_
              refine va_get (D := (dC, dI)) (ci := 7) (v := .int (fi 1)) (C := R_Mo) (T := T_Mo) (N := 36) hx hb ht in_Mo hown hK hP 0 rfl rfl 8 (by decide) (ht _ kw_621) (fun _ h9 => h9) rfl d_Mo_creep_97 ?_
              refine lv_iload_n hx hb d_Mo_creep_100 rfl (lv_at hl 3 rfl) ?_
              obtain ⟨h101, hw⟩ := hw
              refine va_iast (f := ai_91 7) hx hb hK hP hD hS 7 0 rfl rfl h101 d_Mo_creep_101 (fun H locs hP hD hS => ?_)
              have hP := mwpai_7 hP
              have hD := mwdai_7 hD
              obtain ⟨ai_101, eai_101⟩ : ∃ z, z = va_up ai_91 7 (upd (ai_91 7) (fi 1).toNatClampNeg p1) := ⟨_, rfl⟩
              rw [← eai_101] at hP hD
              have hw := zw_nm_x eai_101 hw
              refine lv_aload_n hx hb d_Mo_creep_102 rfl (lv_at hl 1 rfl) ?_
              refine lv_dup hx hb d_Mo_creep_103 rfl ?_
              refine va_get (D := (dC, dI)) (ci := 7) (v := .int (fi 1)) (C := R_Mo) (T := T_Mo) (N := 36) hx hb ht in_Mo hown hK hP 0 rfl rfl 8 (by decide) (ht _ kw_621) (fun _ h9 => h9) rfl d_Mo_creep_104 ?_
              refine lv_iconst (v := (1 : Int32)) hx hb d_Mo_creep_107 (by decide) ?_
              refine lv_iadd hx hb d_Mo_creep_108 ?_
              refine va_put (D := (dC, dI)) (ci := 7) (v := .int ((fi 1) + (1 : Int32))) (ty := .int) (C := R_Mo) (T := T_Mo) (N := 36) hx hb ht in_Mo t_Mo t_Mo_ok n_Mo hown hK hP hD hS 0 rfl rfl 8 (by decide) (ht _ kw_621) (fun _ h9 => h9) rfl (by decide +kernel) rfl rfl (Nat.le_of_ble_eq_true rfl) d_Mo_creep_109 (fun H locs hP hD hS => ?_)
              have hP := mwpfi_1 hP
              have hD := mwdfi_1 hD
              obtain ⟨fi_109, efi_109⟩ : ∃ z, z = va_up fi 1 ((fi 1) + (1 : Int32)) := ⟨_, rfl⟩
              rw [← efi_109] at hP hD
              have hw := zw_nm_x efi_109 hw
              refine lv_iconst (v := (1 : Int32)) hx hb d_Mo_creep_112 (by decide) ?_
              exact W.zret (v := (1 : Int32)) (ty := .boolean) hx hb hr rfl (fun t ht hW => ⟨⟨(1 : Int32), (fi_109, fl, ai_101, al), rfl, ⟨rfl, rfl, hw⟩, by rw [ht]; exact hP, va_K.moved hW.alike hK, hD⟩, hS.F ht⟩) hS.2.2 d_Mo_creep_113
            · have hw := zw_ite_t c77 hw
              refine lv_iconst (v := (0 : Int32)) hx hb d_Mo_creep_80 (by decide) ?_
              exact W.zret (v := (0 : Int32)) (ty := .boolean) hx hb hr rfl (fun t ht hW => ⟨⟨(0 : Int32), (fi, fl, ai, al), rfl, ⟨rfl, rfl, hw⟩, by rw [ht]; exact hP, va_K.moved hW.alike hK, hD⟩, hS.F ht⟩) hS.2.2 d_Mo_creep_81
    · refine zw_jn0_i (P := ∀ (H : Heap) (locs : List Loc) (ls : Array Slot), va_P (dC, dI) vwCl (mw cI cJ cG cZ a fi fl ai al) H → va_D A (mw cI cJ cG cZ a fi fl ai al) → va_S A s.heap H locs → lv_has ls 4 [(0, .ref (a 0)), (1, .int p0), (2, .int p1)] → W p l e (headSpec ws_Mo_creep ({ frames := 1, cells := 0, slots := 0, locals := 25 })).room s m ([.ref (a 0), .int p0, .int p1] : List Value).toArray below meth c H locs 0 0 (MQ below (va_Qi (fun r (u : zw_Z) => (zw_k_fi_air fl al K) r u.1 u.2.1 u.2.2.1 u.2.2.2) (fun u t => zw_E (dC, dI) vwCl [(cI, .int), (cJ, .long), (cG, .array .int), (cZ, .boolean)] A (mw cI cJ cG cZ a u.1 u.2.1 u.2.2.1 u.2.2.2) t) A) ([.ref (a 0), .int p0, .int p1] : List Value).toArray s 0 0 A) (F0 m 37 ls [])) hw (fun hw H locs ls hP hD hS hl => ?_) (fun J37 hj37 hw => ?_)
      · refine lv_iconst (v := (1 : Int32)) hx hb d_Mo_creep_37 (by decide) ?_
        refine lv_goto (tgt := 42) hx hb d_Mo_creep_38 (by decide) ?_
        exact (hj42 (1 : Int32) hw) H locs ls hP hD hS (lv_sub hl [0, 1, 2] rfl)
      · refine lv_if_eq (tgt := 37) hx hb d_Mo_creep_4 (by decide) (fun c4 => ?_) (fun c4 => ?_)
        · have hw := zw_ite_t c4 hw
          exact (hj37  hw) H locs ls hP hD hS (lv_sub hl [0, 1, 2] rfl)
        · have hw := zw_ite_f c4 hw
          refine lv_iload_n hx hb d_Mo_creep_7 rfl (lv_at hl 1 rfl) ?_
          refine lv_aload_n hx hb d_Mo_creep_8 rfl (lv_at hl 0 rfl) ?_
          refine va_get (D := (dC, dI)) (ci := 7) (v := .ref (a 6)) (C := R_Mo) (T := T_Mo) (N := 36) hx hb ht in_Mo hown hK hP 0 rfl rfl 6 (by decide) (ht _ kw_619) (fun _ h9 => h9) rfl d_Mo_creep_9 ?_
          refine lv_aload_n hx hb d_Mo_creep_12 rfl (lv_at hl 0 rfl) ?_
          refine va_get (D := (dC, dI)) (ci := 7) (v := .int (fi 1)) (C := R_Mo) (T := T_Mo) (N := 36) hx hb ht in_Mo hown hK hP 0 rfl rfl 8 (by decide) (ht _ kw_621) (fun _ h9 => h9) rfl d_Mo_creep_13 ?_
          refine lv_iconst (v := (1 : Int32)) hx hb d_Mo_creep_16 (by decide) ?_
          refine lv_isub hx hb d_Mo_creep_17 ?_
          obtain ⟨h18, hw⟩ := hw
          refine va_iald (f := ai 6) hx hb hK hP 6 0 rfl rfl h18 d_Mo_creep_18 ?_
          refine zw_jn0_i (P := ∀ (H : Heap) (locs : List Loc) (ls : Array Slot), va_P (dC, dI) vwCl (mw cI cJ cG cZ a fi fl ai al) H → va_D A (mw cI cJ cG cZ a fi fl ai al) → va_S A s.heap H locs → lv_has ls 4 [(0, .ref (a 0)), (1, .int p0), (2, .int p1)] → W p l e (headSpec ws_Mo_creep ({ frames := 1, cells := 0, slots := 0, locals := 25 })).room s m ([.ref (a 0), .int p0, .int p1] : List Value).toArray below meth c H locs 0 0 (MQ below (va_Qi (fun r (u : zw_Z) => (zw_k_fi_air fl al K) r u.1 u.2.1 u.2.2.1 u.2.2.2) (fun u t => zw_E (dC, dI) vwCl [(cI, .int), (cJ, .long), (cG, .array .int), (cZ, .boolean)] A (mw cI cJ cG cZ a u.1 u.2.1 u.2.2.1 u.2.2.2) t) A) ([.ref (a 0), .int p0, .int p1] : List Value).toArray s 0 0 A) (F0 m 41 ls [])) hw (fun hw H locs ls hP hD hS hl => ?_) (fun J41 hj41 hw => ?_)
          · refine lv_iconst (v := (0 : Int32)) hx hb d_Mo_creep_41 (by decide) ?_
            exact (hj42 (0 : Int32) hw) H locs ls hP hD hS (lv_sub hl [0, 1, 2] rfl)
          · refine lv_icmp_le (tgt := 41) hx hb d_Mo_creep_19 (by decide) (fun c19 => ?_) (fun c19 => ?_)
            · have hw := zw_ite_t c19 hw
              exact (hj41  hw) H locs ls hP hD hS (lv_sub hl [0, 1, 2] rfl)
            · have hw := zw_ite_f c19 hw
              refine lv_iload_n hx hb d_Mo_creep_22 rfl (lv_at hl 2 rfl) ?_
              refine lv_aload_n hx hb d_Mo_creep_23 rfl (lv_at hl 0 rfl) ?_
              refine va_get (D := (dC, dI)) (ci := 7) (v := .ref (a 7)) (C := R_Mo) (T := T_Mo) (N := 36) hx hb ht in_Mo hown hK hP 0 rfl rfl 7 (by decide) (ht _ kw_620) (fun _ h9 => h9) rfl d_Mo_creep_24 ?_
              refine lv_aload_n hx hb d_Mo_creep_27 rfl (lv_at hl 0 rfl) ?_
              refine va_get (D := (dC, dI)) (ci := 7) (v := .int (fi 1)) (C := R_Mo) (T := T_Mo) (N := 36) hx hb ht in_Mo hown hK hP 0 rfl rfl 8 (by decide) (ht _ kw_621) (fun _ h9 => h9) rfl d_Mo_creep_28 ?_
              refine lv_iconst (v := (1 : Int32)) hx hb d_Mo_creep_31 (by decide) ?_
              refine lv_isub hx hb d_Mo_creep_32 ?_
              obtain ⟨h33, hw⟩ := hw
              refine va_iald (f := ai 7) hx hb hK hP 7 0 rfl rfl h33 d_Mo_creep_33 ?_
              refine lv_icmp_lt (tgt := 41) hx hb d_Mo_creep_34 (by decide) (fun c34 => ?_) (fun c34 => ?_)
              · have hw := zw_ite_t c34 hw
                exact (hj41  hw) H locs ls hP hD hS (lv_sub hl [0, 1, 2] rfl)
              · have hw := zw_ite_f c34 hw
                exact (hj37  hw) H locs ls hP hD hS (lv_sub hl [0, 1, 2] rfl)
  rw [hH, hlo] at key
  exact key
