def Mo_support_w (fi : Nat → Int32) (fl : Nat → Int64) (ai : Nat → Nat → Int32) (al : Nat → Nat → Int64) (p0 : Int32) (p1 : Int32) (K : Int32 → (Nat → Int32) → (Nat → Nat → Int32) → Prop) : Prop :=
  Mo_mayPut_w fi fl ai al  (fun (r1 : Int32) =>
  if r1 = 0 then (
    K (0 : Int32) fi ai)
  else (
    Mo_in_w p0.toInt64 (0 : Int64) (2 : Int64) (fun (r13 : Int32) =>
    if r13 = 0 then (
      K (0 : Int32) fi ai)
    else (
      Mo_isOn_w fi fl ai al p0 (fun (r21 : Int32) =>
      if r21 = p1 then (
        K (0 : Int32) fi ai)
      else (
        zw_jn1 (fun (y40_0 : Int32) =>
        Mo_put_w fi fl ai al y40_0 p0 (0 : Int32) (fun (fi_42 : Nat → Int32) (ai_42 : Nat → Nat → Int32) =>
        K (1 : Int32) fi_42 ai_42)) (fun J40 =>
        if p1 = 0 then (
          J40 (3 : Int32))
        else (
          J40 (2 : Int32)))))))))
theorem d_Mo_support_0 : decode b_Mo_support 0 = .ok (.aload_n 0, 1) := by decide +kernel
theorem d_Mo_support_1 : decode b_Mo_support 1 = .ok (.invokevirtual 153, 3) := by decide +kernel
theorem d_Mo_support_4 : decode b_Mo_support 4 = .ok (.ifCond .eq (24), 3) := by decide +kernel
theorem d_Mo_support_7 : decode b_Mo_support 7 = .ok (.iload_n 1, 1) := by decide +kernel
theorem d_Mo_support_8 : decode b_Mo_support 8 = .ok (.i2l, 1) := by decide +kernel
theorem d_Mo_support_9 : decode b_Mo_support 9 = .ok (.lconst 0, 1) := by decide +kernel
theorem d_Mo_support_10 : decode b_Mo_support 10 = .ok (.ldc2_w 124, 3) := by decide +kernel
theorem d_Mo_support_13 : decode b_Mo_support 13 = .ok (.invokestatic 103, 3) := by decide +kernel
theorem d_Mo_support_16 : decode b_Mo_support 16 = .ok (.ifCond .eq (12), 3) := by decide +kernel
theorem d_Mo_support_19 : decode b_Mo_support 19 = .ok (.aload_n 0, 1) := by decide +kernel
theorem d_Mo_support_20 : decode b_Mo_support 20 = .ok (.iload_n 1, 1) := by decide +kernel
theorem d_Mo_support_21 : decode b_Mo_support 21 = .ok (.invokevirtual 161, 3) := by decide +kernel
theorem d_Mo_support_24 : decode b_Mo_support 24 = .ok (.iload_n 2, 1) := by decide +kernel
theorem d_Mo_support_25 : decode b_Mo_support 25 = .ok (.if_icmp .ne (5), 3) := by decide +kernel
theorem d_Mo_support_28 : decode b_Mo_support 28 = .ok (.iconst 0, 1) := by decide +kernel
theorem d_Mo_support_29 : decode b_Mo_support 29 = .ok (.ireturn, 1) := by decide +kernel
theorem d_Mo_support_30 : decode b_Mo_support 30 = .ok (.aload_n 0, 1) := by decide +kernel
theorem d_Mo_support_31 : decode b_Mo_support 31 = .ok (.iload_n 2, 1) := by decide +kernel
theorem d_Mo_support_32 : decode b_Mo_support 32 = .ok (.ifCond .eq (7), 3) := by decide +kernel
theorem d_Mo_support_35 : decode b_Mo_support 35 = .ok (.iconst 2, 1) := by decide +kernel
theorem d_Mo_support_36 : decode b_Mo_support 36 = .ok (.goto (4), 3) := by decide +kernel
theorem d_Mo_support_39 : decode b_Mo_support 39 = .ok (.iconst 3, 1) := by decide +kernel
theorem d_Mo_support_40 : decode b_Mo_support 40 = .ok (.iload_n 1, 1) := by decide +kernel
theorem d_Mo_support_41 : decode b_Mo_support 41 = .ok (.iconst 0, 1) := by decide +kernel
theorem d_Mo_support_42 : decode b_Mo_support 42 = .ok (.invokevirtual 157, 3) := by decide +kernel
theorem d_Mo_support_45 : decode b_Mo_support 45 = .ok (.iconst 1, 1) := by decide +kernel
theorem d_Mo_support_46 : decode b_Mo_support 46 = .ok (.ireturn, 1) := by decide +kernel
set_option maxHeartbeats 4000000 in
set_option maxRecDepth 100000 in
theorem c_Mo_support (l : Launch) (dC : Nat → ClassId) (dI : Nat → Nat → Nat) (cI cJ cG cZ : ClassId) (a : Nat → Nat) (sz : Nat) (fi : Nat → Int32) (fl : Nat → Int64) (ai : Nat → Nat → Int32) (al : Nat → Nat → Int64) (p0 : Int32) (p1 : Int32) (K : Int32 → (Nat → Int32) → (Nat → Nat → Int32) → Prop) (hw : Mo_support_w fi fl ai al p0 p1 K) : Met l y_Mo_support ws_Mo_support ({ frames := 1, cells := 0, slots := 0, locals := 25 }) (va_Pc [.ref (a 0), .int p0, .int p1] (zw_Bw (dC, dI) vwCl [(cI, .int), (cJ, .long), (cG, .array .int), (cZ, .boolean)] (mw cI cJ cG cZ a fi fl ai al) sz)) (va_Qi (fun r (u : zw_Z) => (zw_k_fi_air fl al K) r u.1 u.2.1 u.2.2.1 u.2.2.2) (fun u t => zw_E (dC, dI) vwCl [(cI, .int), (cJ, .long), (cG, .array .int), (cZ, .boolean)] (va_A (mw cI cJ cG cZ a fi fl ai al) sz) (mw cI cJ cG cZ a u.1 u.2.1 u.2.2.1 u.2.2.2) t) (va_A (mw cI cJ cG cZ a fi fl ai al) sz)) 0 0 (va_A (mw cI cJ cG cZ a fi fl ai al) sz) := by
  refine Met.ofW (cc := b_Mo_support) (maxL := 3) (ret := (Option.some FieldType.boolean)) (by decide) rfl ?_
  intro p e s m args below meth c s₁ B hml hv
  obtain ⟨rfl, hsz, hP, hK, hD0, hN⟩ := hv
  have hx := B.exec
  have hb := B.bytes
  have hr := B.returns
  have hts := atoms_spec (ws := ws_Mo_support) B.pre
  have ht : ∀ w ∈ zw_tbl, w.before _ s = true := fun w h => hts w (List.mem_cons_of_mem _ h)
  have hown : s.vm.findClass R_Mo = some m.cls := findClass_of_methodNamed B.named
  have hlocks := B.notSynchronized
  subst hsz
  have hD := hD0.self (sz := s.heap.size)
  generalize hAe : va_A (mw cI cJ cG cZ a fi fl ai al) s.heap.size = A at hD ⊢
  have hA : ∀ q : Nat, s.heap.size ≤ q → A q := fun q h => by rw [← hAe]; exact Or.inr h
  have hS : va_S A s.heap s.heap [] := va_S.rf
  have hl := lv_entry ([.ref (a 0), .int p0, .int p1] : List Value) (n := 3) (Nat.le_of_ble_eq_true rfl)
  rw [lg_entry_eq]
  generalize (lg_sl ([.ref (a 0), .int p0, .int p1] : List Value) ++ List.replicate (3 - (lg_sl ([.ref (a 0), .int p0, .int p1] : List Value)).length) Slot.unset).toArray = ls at hl ⊢
  have hl : lv_has ls 3 [(0, .ref (a 0)), (1, .int p0), (2, .int p1)] := hl
  unfold Mo_support_w at hw
  obtain ⟨H, hH⟩ : ∃ H, H = s.heap := ⟨_, rfl⟩
  obtain ⟨locs, hlo⟩ : ∃ q : List Loc, q = [] := ⟨_, rfl⟩
  have hP : va_P (dC, dI) vwCl (mw cI cJ cG cZ a fi fl ai al) H := by rw [hH]; exact hP
  have hS : va_S A s.heap H locs := by rw [hH, hlo]; exact hS
  have key : W p l e (headSpec ws_Mo_support ({ frames := 1, cells := 0, slots := 0, locals := 25 })).room s m ([.ref (a 0), .int p0, .int p1] : List Value).toArray below meth c H locs 0 0 (MQ below (va_Qi (fun r (u : zw_Z) => (zw_k_fi_air fl al K) r u.1 u.2.1 u.2.2.1 u.2.2.2) (fun u t => zw_E (dC, dI) vwCl [(cI, .int), (cJ, .long), (cG, .array .int), (cZ, .boolean)] A (mw cI cJ cG cZ a u.1 u.2.1 u.2.2.1 u.2.2.2) t) A) ([.ref (a 0), .int p0, .int p1] : List Value).toArray s 0 0 A) (F0 m 0 ls []) := by
    refine lv_aload_n hx hb d_Mo_support_0 rfl (lv_at hl 0 rfl) ?_
    refine vp_callSi (va_Run.run (va_runV (As := []) (rest := []) ⟨hx, hb, hml, hown, hts⟩ (c_Mo_mayPut l dC dI cI cJ cG cZ a fi fl ai al _ hw) (cwV 0 hts (zw_goodV kw_787 kw_789 kw_s21 kw_9 kw_790) rfl rfl rfl hd_Mo_mayPut ⟨Nat.le_of_ble_eq_true rfl, Nat.le_of_ble_eq_true rfl⟩) (zw_preV (ci := 7) (q0 := 0) hK hN hP rfl rfl) rfl rfl hl.1 rfl (lv_room (Nat.le_of_ble_eq_true rfl)) d_Mo_support_1 ⟨Nat.le_of_ble_eq_true rfl, Nat.le_of_ble_eq_true rfl⟩)) (fun r1 hw => ?_)
    refine lv_if_eq (tgt := 28) hx hb d_Mo_support_4 (by decide) (fun c4 => ?_) (fun c4 => ?_)
    · have hw := zw_ite_t c4 hw
      refine lv_iconst (v := (0 : Int32)) hx hb d_Mo_support_28 (by decide) ?_
      exact W.zret (v := (0 : Int32)) (ty := .boolean) hx hb hr rfl (fun t ht hW => ⟨⟨(0 : Int32), (fi, fl, ai, al), rfl, ⟨rfl, rfl, hw⟩, by rw [ht]; exact hP, va_K.moved hW.alike hK, hD⟩, hS.F ht⟩) hS.2.2 d_Mo_support_29
    · have hw := zw_ite_f c4 hw
      refine lv_iload_n hx hb d_Mo_support_7 rfl (lv_at hl 1 rfl) ?_
      refine lv_i2l hx hb d_Mo_support_8 rfl ?_
      refine lv_lconst (v := (0 : Int64)) hx hb d_Mo_support_9 (by decide) ?_
      refine lv_ldc2 (v := (2 : Int64)) hx hb hown (hts (.constantLong R_Mo 124 (2 : Int64)) (by decide +kernel)) d_Mo_support_10 ?_
      refine vp_callSi (va_Run.run (va_runS (As := [.long p0.toInt64, .long (0 : Int64), .long (2 : Int64)]) (rest := []) ⟨hx, hb, hml, hown, hts⟩ (c_Mo_in l p0.toInt64 (0 : Int64) (2 : Int64) _ hw) (va_cwS 3 hts (zw_goodS kw_731 kw_732 kw_9 kw_733) rfl rfl rfl hd_Mo_in.2 ⟨Nat.le_of_ble_eq_true rfl, Nat.le_of_ble_eq_true rfl⟩) zw_preS0 rfl rfl hl.1 rfl (lv_room (Nat.le_of_ble_eq_true rfl)) d_Mo_support_13 ⟨Nat.le_of_ble_eq_true rfl, Nat.le_of_ble_eq_true rfl⟩)) (fun r13 hw => ?_)
      refine lv_if_eq (tgt := 28) hx hb d_Mo_support_16 (by decide) (fun c16 => ?_) (fun c16 => ?_)
      · have hw := zw_ite_t c16 hw
        refine lv_iconst (v := (0 : Int32)) hx hb d_Mo_support_28 (by decide) ?_
        exact W.zret (v := (0 : Int32)) (ty := .boolean) hx hb hr rfl (fun t ht hW => ⟨⟨(0 : Int32), (fi, fl, ai, al), rfl, ⟨rfl, rfl, hw⟩, by rw [ht]; exact hP, va_K.moved hW.alike hK, hD⟩, hS.F ht⟩) hS.2.2 d_Mo_support_29
      · have hw := zw_ite_f c16 hw
        refine lv_aload_n hx hb d_Mo_support_19 rfl (lv_at hl 0 rfl) ?_
        refine lv_iload_n hx hb d_Mo_support_20 rfl (lv_at hl 1 rfl) ?_
        refine vp_callSi (va_Run.run (va_runV (As := [.int p0]) (rest := []) ⟨hx, hb, hml, hown, hts⟩ (c_Mo_isOn l dC dI cI cJ cG cZ a fi fl ai al p0 _ hw) (cwV 1 hts (zw_goodV kw_803 kw_805 kw_s23 kw_9 kw_806) rfl rfl rfl hd_Mo_isOn ⟨Nat.le_of_ble_eq_true rfl, Nat.le_of_ble_eq_true rfl⟩) (zw_preV (ci := 7) (q0 := 0) hK hN hP rfl rfl) rfl rfl hl.1 rfl (lv_room (Nat.le_of_ble_eq_true rfl)) d_Mo_support_21 ⟨Nat.le_of_ble_eq_true rfl, Nat.le_of_ble_eq_true rfl⟩)) (fun r21 hw => ?_)
        refine lv_iload_n hx hb d_Mo_support_24 rfl (lv_at hl 2 rfl) ?_
        refine lv_icmp_ne (tgt := 30) hx hb d_Mo_support_25 (by decide) (fun c25 => ?_) (fun c25 => ?_)
        · have hw := zw_ite_f c25 hw
          refine lv_aload_n hx hb d_Mo_support_30 rfl (lv_at hl 0 rfl) ?_
          refine lv_iload_n hx hb d_Mo_support_31 rfl (lv_at hl 2 rfl) ?_
          refine zw_jn1_i (P := fun (y40_0 : Int32) => ∀ (H : Heap) (locs : List Loc) (ls : Array Slot), va_P (dC, dI) vwCl (mw cI cJ cG cZ a fi fl ai al) H → va_D A (mw cI cJ cG cZ a fi fl ai al) → va_S A s.heap H locs → lv_has ls 3 [(1, .int p0)] → W p l e (headSpec ws_Mo_support ({ frames := 1, cells := 0, slots := 0, locals := 25 })).room s m ([.ref (a 0), .int p0, .int p1] : List Value).toArray below meth c H locs 0 0 (MQ below (va_Qi (fun r (u : zw_Z) => (zw_k_fi_air fl al K) r u.1 u.2.1 u.2.2.1 u.2.2.2) (fun u t => zw_E (dC, dI) vwCl [(cI, .int), (cJ, .long), (cG, .array .int), (cZ, .boolean)] A (mw cI cJ cG cZ a u.1 u.2.1 u.2.2.1 u.2.2.2) t) A) ([.ref (a 0), .int p0, .int p1] : List Value).toArray s 0 0 A) (F0 m 40 ls [.int y40_0, .ref (a 0)])) hw (fun y40_0 hw H locs ls hP hD hS hl => ?_) (fun J40 hj40 hw => ?_)
          · refine lv_iload_n hx hb d_Mo_support_40 rfl (lv_at hl 0 rfl) ?_
            refine lv_iconst (v := (0 : Int32)) hx hb d_Mo_support_41 (by decide) ?_
            refine zw_cv (va_runV (As := [.int y40_0, .int p0, .int (0 : Int32)]) (rest := []) ⟨hx, hb, hml, hown, hts⟩ (c_Mo_put l dC dI cI cJ cG cZ a H.size fi fl ai al y40_0 p0 (0 : Int32) _ hw) (cwV 3 hts (zw_goodV kw_791 kw_793 kw_s22 kw_9 kw_794) rfl rfl rfl hd_Mo_put ⟨Nat.le_of_ble_eq_true rfl, Nat.le_of_ble_eq_true rfl⟩) (zw_preVw (ci := 7) (q0 := 0) hK hN hP hD rfl rfl) rfl rfl hl.1 rfl (lv_room (Nat.le_of_ble_eq_true rfl)) d_Mo_support_42 ⟨Nat.le_of_ble_eq_true rfl, Nat.le_of_ble_eq_true rfl⟩) hD hS hA (fun fi_42 fl_42 ai_42 al_42 H locs hw hP hD hS => ?_)
            obtain ⟨rfl, rfl, hw⟩ := hw
            refine lv_iconst (v := (1 : Int32)) hx hb d_Mo_support_45 (by decide) ?_
            exact W.zret (v := (1 : Int32)) (ty := .boolean) hx hb hr rfl (fun t ht hW => ⟨⟨(1 : Int32), (fi_42, fl, ai_42, al), rfl, ⟨rfl, rfl, hw⟩, by rw [ht]; exact hP, va_K.moved hW.alike hK, hD⟩, hS.F ht⟩) hS.2.2 d_Mo_support_46
          · refine lv_if_eq (tgt := 39) hx hb d_Mo_support_32 (by decide) (fun c32 => ?_) (fun c32 => ?_)
            · have hw := zw_ite_t c32 hw
              refine lv_iconst (v := (3 : Int32)) hx hb d_Mo_support_39 (by decide) ?_
              exact (hj40 (3 : Int32) hw) H locs ls hP hD hS (lv_sub hl [1] rfl)
            · have hw := zw_ite_f c32 hw
              refine lv_iconst (v := (2 : Int32)) hx hb d_Mo_support_35 (by decide) ?_
              refine lv_goto (tgt := 40) hx hb d_Mo_support_36 (by decide) ?_
              exact (hj40 (2 : Int32) hw) H locs ls hP hD hS (lv_sub hl [1] rfl)
        · have hw := zw_ite_t c25 hw
          refine lv_iconst (v := (0 : Int32)) hx hb d_Mo_support_28 (by decide) ?_
          exact W.zret (v := (0 : Int32)) (ty := .boolean) hx hb hr rfl (fun t ht hW => ⟨⟨(0 : Int32), (fi, fl, ai, al), rfl, ⟨rfl, rfl, hw⟩, by rw [ht]; exact hP, va_K.moved hW.alike hK, hD⟩, hS.F ht⟩) hS.2.2 d_Mo_support_29
  rw [hH, hlo] at key
  exact key
def Mo_end_w (fi : Nat → Int32) (fl : Nat → Int64) (ai : Nat → Nat → Int32) (al : Nat → Nat → Int64) (p0 : Int32) (K : Int32 → (Nat → Int32) → Prop) : Prop :=
  if (fi 2) = 0 then (
    K (0 : Int32) fi)
  else (
    Mo_lastDay_w fi fl ai al  (fun (r9 : Int32) =>
    if p0 < r9 then (
      K (0 : Int32) fi)
    else (
      if p0 ≤ (40000 : Int32) then (
        zw_nm (va_up fi 4 p0) (fun (fi_25 : Nat → Int32) =>
        K (1 : Int32) fi_25))
      else (
        K (0 : Int32) fi))))
theorem d_Mo_end_0 : decode b_Mo_end 0 = .ok (.aload_n 0, 1) := by decide +kernel
theorem d_Mo_end_1 : decode b_Mo_end 1 = .ok (.getfield 107, 3) := by decide +kernel
theorem d_Mo_end_4 : decode b_Mo_end 4 = .ok (.ifCond .eq (17), 3) := by decide +kernel
theorem d_Mo_end_7 : decode b_Mo_end 7 = .ok (.iload_n 1, 1) := by decide +kernel
theorem d_Mo_end_8 : decode b_Mo_end 8 = .ok (.aload_n 0, 1) := by decide +kernel
theorem d_Mo_end_9 : decode b_Mo_end 9 = .ok (.invokevirtual 144, 3) := by decide +kernel
theorem d_Mo_end_12 : decode b_Mo_end 12 = .ok (.if_icmp .lt (9), 3) := by decide +kernel
theorem d_Mo_end_15 : decode b_Mo_end 15 = .ok (.iload_n 1, 1) := by decide +kernel
theorem d_Mo_end_16 : decode b_Mo_end 16 = .ok (.ldc 164, 2) := by decide +kernel
theorem d_Mo_end_18 : decode b_Mo_end 18 = .ok (.if_icmp .le (5), 3) := by decide +kernel
theorem d_Mo_end_21 : decode b_Mo_end 21 = .ok (.iconst 0, 1) := by decide +kernel
theorem d_Mo_end_22 : decode b_Mo_end 22 = .ok (.ireturn, 1) := by decide +kernel
theorem d_Mo_end_23 : decode b_Mo_end 23 = .ok (.aload_n 0, 1) := by decide +kernel
theorem d_Mo_end_24 : decode b_Mo_end 24 = .ok (.iload_n 1, 1) := by decide +kernel
theorem d_Mo_end_25 : decode b_Mo_end 25 = .ok (.putfield 54, 3) := by decide +kernel
theorem d_Mo_end_28 : decode b_Mo_end 28 = .ok (.iconst 1, 1) := by decide +kernel
theorem d_Mo_end_29 : decode b_Mo_end 29 = .ok (.ireturn, 1) := by decide +kernel
set_option maxHeartbeats 4000000 in
set_option maxRecDepth 100000 in
theorem c_Mo_end (l : Launch) (dC : Nat → ClassId) (dI : Nat → Nat → Nat) (cI cJ cG cZ : ClassId) (a : Nat → Nat) (sz : Nat) (fi : Nat → Int32) (fl : Nat → Int64) (ai : Nat → Nat → Int32) (al : Nat → Nat → Int64) (p0 : Int32) (K : Int32 → (Nat → Int32) → Prop) (hw : Mo_end_w fi fl ai al p0 K) : Met l y_Mo_end ws_Mo_end ({ frames := 1, cells := 0, slots := 0, locals := 20 }) (va_Pc [.ref (a 0), .int p0] (zw_Bw (dC, dI) vwCl [(cI, .int), (cJ, .long), (cG, .array .int), (cZ, .boolean)] (mw cI cJ cG cZ a fi fl ai al) sz)) (va_Qi (fun r (u : zw_Z) => (zw_k_fir fl ai al K) r u.1 u.2.1 u.2.2.1 u.2.2.2) (fun u t => zw_E (dC, dI) vwCl [(cI, .int), (cJ, .long), (cG, .array .int), (cZ, .boolean)] (va_A (mw cI cJ cG cZ a fi fl ai al) sz) (mw cI cJ cG cZ a u.1 u.2.1 u.2.2.1 u.2.2.2) t) (va_A (mw cI cJ cG cZ a fi fl ai al) sz)) 0 0 (va_A (mw cI cJ cG cZ a fi fl ai al) sz) := by
  refine Met.ofW (cc := b_Mo_end) (maxL := 2) (ret := (Option.some FieldType.boolean)) (by decide) rfl ?_
  intro p e s m args below meth c s₁ B hml hv
  obtain ⟨rfl, hsz, hP, hK, hD0, hN⟩ := hv
  have hx := B.exec
  have hb := B.bytes
  have hr := B.returns
  have hts := atoms_spec (ws := ws_Mo_end) B.pre
  have ht : ∀ w ∈ zw_tbl, w.before _ s = true := fun w h => hts w (List.mem_cons_of_mem _ h)
  have hown : s.vm.findClass R_Mo = some m.cls := findClass_of_methodNamed B.named
  have hlocks := B.notSynchronized
  subst hsz
  have hD := hD0.self (sz := s.heap.size)
  generalize hAe : va_A (mw cI cJ cG cZ a fi fl ai al) s.heap.size = A at hD ⊢
  have hA : ∀ q : Nat, s.heap.size ≤ q → A q := fun q h => by rw [← hAe]; exact Or.inr h
  have hS : va_S A s.heap s.heap [] := va_S.rf
  have hl := lv_entry ([.ref (a 0), .int p0] : List Value) (n := 2) (Nat.le_of_ble_eq_true rfl)
  rw [lg_entry_eq]
  generalize (lg_sl ([.ref (a 0), .int p0] : List Value) ++ List.replicate (2 - (lg_sl ([.ref (a 0), .int p0] : List Value)).length) Slot.unset).toArray = ls at hl ⊢
  have hl : lv_has ls 2 [(0, .ref (a 0)), (1, .int p0)] := hl
  unfold Mo_end_w at hw
  obtain ⟨H, hH⟩ : ∃ H, H = s.heap := ⟨_, rfl⟩
  obtain ⟨locs, hlo⟩ : ∃ q : List Loc, q = [] := ⟨_, rfl⟩
  have hP : va_P (dC, dI) vwCl (mw cI cJ cG cZ a fi fl ai al) H := by rw [hH]; exact hP
  have hS : va_S A s.heap H locs := by rw [hH, hlo]; exact hS
  have key : W p l e (headSpec ws_Mo_end ({ frames := 1, cells := 0, slots := 0, locals := 20 })).room s m ([.ref (a 0), .int p0] : List Value).toArray below meth c H locs 0 0 (MQ below (va_Qi (fun r (u : zw_Z) => (zw_k_fir fl ai al K) r u.1 u.2.1 u.2.2.1 u.2.2.2) (fun u t => zw_E (dC, dI) vwCl [(cI, .int), (cJ, .long), (cG, .array .int), (cZ, .boolean)] A (mw cI cJ cG cZ a u.1 u.2.1 u.2.2.1 u.2.2.2) t) A) ([.ref (a 0), .int p0] : List Value).toArray s 0 0 A) (F0 m 0 ls []) := by
    refine lv_aload_n hx hb d_Mo_end_0 rfl (lv_at hl 0 rfl) ?_
    refine va_get (D := (dC, dI)) (ci := 7) (v := .int (fi 2)) (C := R_Mo) (T := T_Mo) (N := 36) hx hb ht in_Mo hown hK hP 0 rfl rfl 11 (by decide) (ht _ kw_624) (fun _ h9 => h9) rfl d_Mo_end_1 ?_
    refine lv_if_eq (tgt := 21) hx hb d_Mo_end_4 (by decide) (fun c4 => ?_) (fun c4 => ?_)
    · have hw := zw_ite_t c4 hw
      refine lv_iconst (v := (0 : Int32)) hx hb d_Mo_end_21 (by decide) ?_
      exact W.zret (v := (0 : Int32)) (ty := .boolean) hx hb hr rfl (fun t ht hW => ⟨⟨(0 : Int32), (fi, fl, ai, al), rfl, ⟨rfl, rfl, rfl, hw⟩, by rw [ht]; exact hP, va_K.moved hW.alike hK, hD⟩, hS.F ht⟩) hS.2.2 d_Mo_end_22
    · have hw := zw_ite_f c4 hw
      refine lv_iload_n hx hb d_Mo_end_7 rfl (lv_at hl 1 rfl) ?_
      refine lv_aload_n hx hb d_Mo_end_8 rfl (lv_at hl 0 rfl) ?_
      refine vp_callSi (va_Run.run (va_runV (As := []) (rest := [.int p0]) ⟨hx, hb, hml, hown, hts⟩ (c_Mo_lastDay l dC dI cI cJ cG cZ a fi fl ai al _ hw) (cwV 0 hts (zw_goodV kw_774 kw_776 kw_s19 kw_9 kw_777) rfl rfl rfl hd_Mo_lastDay ⟨Nat.le_of_ble_eq_true rfl, Nat.le_of_ble_eq_true rfl⟩) (zw_preV (ci := 7) (q0 := 0) hK hN hP rfl rfl) rfl rfl hl.1 rfl (lv_room (Nat.le_of_ble_eq_true rfl)) d_Mo_end_9 ⟨Nat.le_of_ble_eq_true rfl, Nat.le_of_ble_eq_true rfl⟩)) (fun r9 hw => ?_)
      refine lv_icmp_lt (tgt := 21) hx hb d_Mo_end_12 (by decide) (fun c12 => ?_) (fun c12 => ?_)
      · have hw := zw_ite_t c12 hw
        refine lv_iconst (v := (0 : Int32)) hx hb d_Mo_end_21 (by decide) ?_
        exact W.zret (v := (0 : Int32)) (ty := .boolean) hx hb hr rfl (fun t ht hW => ⟨⟨(0 : Int32), (fi, fl, ai, al), rfl, ⟨rfl, rfl, rfl, hw⟩, by rw [ht]; exact hP, va_K.moved hW.alike hK, hD⟩, hS.F ht⟩) hS.2.2 d_Mo_end_22
      · have hw := zw_ite_f c12 hw
        refine lv_iload_n hx hb d_Mo_end_15 rfl (lv_at hl 1 rfl) ?_
        refine lv_ldc (v := (40000 : Int32)) hx hb hown (hts (.constant R_Mo 164 (40000 : Int32)) (by decide +kernel)) d_Mo_end_16 ?_
        refine lv_icmp_le (tgt := 23) hx hb d_Mo_end_18 (by decide) (fun c18 => ?_) (fun c18 => ?_)
        · have hw := zw_ite_t c18 hw
          refine lv_aload_n hx hb d_Mo_end_23 rfl (lv_at hl 0 rfl) ?_
          refine lv_iload_n hx hb d_Mo_end_24 rfl (lv_at hl 1 rfl) ?_
          refine va_put (D := (dC, dI)) (ci := 7) (v := .int p0) (ty := .int) (C := R_Mo) (T := T_Mo) (N := 36) hx hb ht in_Mo t_Mo t_Mo_ok n_Mo hown hK hP hD hS 0 rfl rfl 18 (by decide) (ht _ kw_631) (fun _ h9 => h9) rfl (by decide +kernel) rfl rfl (Nat.le_of_ble_eq_true rfl) d_Mo_end_25 (fun H locs hP hD hS => ?_)
          have hP := mwpfi_4 hP
          have hD := mwdfi_4 hD
          obtain ⟨fi_25, efi_25⟩ : ∃ z, z = va_up fi 4 p0 := ⟨_, rfl⟩
          rw [← efi_25] at hP hD
          have hw := zw_nm_x efi_25 hw
          refine lv_iconst (v := (1 : Int32)) hx hb d_Mo_end_28 (by decide) ?_
          exact W.zret (v := (1 : Int32)) (ty := .boolean) hx hb hr rfl (fun t ht hW => ⟨⟨(1 : Int32), (fi_25, fl, ai, al), rfl, ⟨rfl, rfl, rfl, hw⟩, by rw [ht]; exact hP, va_K.moved hW.alike hK, hD⟩, hS.F ht⟩) hS.2.2 d_Mo_end_29
        · have hw := zw_ite_f c18 hw
          refine lv_iconst (v := (0 : Int32)) hx hb d_Mo_end_21 (by decide) ?_
          exact W.zret (v := (0 : Int32)) (ty := .boolean) hx hb hr rfl (fun t ht hW => ⟨⟨(0 : Int32), (fi, fl, ai, al), rfl, ⟨rfl, rfl, rfl, hw⟩, by rw [ht]; exact hP, va_K.moved hW.alike hK, hD⟩, hS.F ht⟩) hS.2.2 d_Mo_end_22
  rw [hH, hlo] at key
  exact key
def Mo_creepAt_w (fi : Nat → Int32) (fl : Nat → Int64) (ai : Nat → Nat → Int32) (al : Nat → Nat → Int64) (p0 : Int32) (K : Int32 → Prop) : Prop :=
  zw_nm (0 : Int32) (fun (v1 : Int32) =>
  zw_nm (0 : Int32) (fun (v3 : Int32) =>
  zw_lp2 (fun L4 (x4_2 : Int32) (x4_3 : Int32) =>
  if (fi 1) ≤ x4_3 then (
    K x4_2)
  else (
    vp_in x4_3 8 ∧ (
    zw_jn1 (fun (y32_0 : Int32) =>
    zw_nm (x4_3 + (1 : Int32)) (fun (v33 : Int32) =>
    L4 y32_0 v33)) (fun J32 =>
    if p0 < (ai 6 x4_3.toNatClampNeg) then (
      J32 x4_2)
    else (
      vp_in x4_3 8 ∧ (
      J32 (ai 7 x4_3.toNatClampNeg))))))) v1 v3))
theorem d_Mo_creepAt_0 : decode b_Mo_creepAt 0 = .ok (.iconst 0, 1) := by decide +kernel
theorem d_Mo_creepAt_1 : decode b_Mo_creepAt 1 = .ok (.istore_n 2, 1) := by decide +kernel
theorem d_Mo_creepAt_2 : decode b_Mo_creepAt 2 = .ok (.iconst 0, 1) := by decide +kernel
theorem d_Mo_creepAt_3 : decode b_Mo_creepAt 3 = .ok (.istore_n 3, 1) := by decide +kernel
theorem d_Mo_creepAt_4 : decode b_Mo_creepAt 4 = .ok (.iload_n 3, 1) := by decide +kernel
theorem d_Mo_creepAt_5 : decode b_Mo_creepAt 5 = .ok (.aload_n 0, 1) := by decide +kernel
theorem d_Mo_creepAt_6 : decode b_Mo_creepAt 6 = .ok (.getfield 126, 3) := by decide +kernel
theorem d_Mo_creepAt_9 : decode b_Mo_creepAt 9 = .ok (.if_icmp .ge (30), 3) := by decide +kernel
theorem d_Mo_creepAt_12 : decode b_Mo_creepAt 12 = .ok (.aload_n 0, 1) := by decide +kernel
theorem d_Mo_creepAt_13 : decode b_Mo_creepAt 13 = .ok (.getfield 25, 3) := by decide +kernel
theorem d_Mo_creepAt_16 : decode b_Mo_creepAt 16 = .ok (.iload_n 3, 1) := by decide +kernel
theorem d_Mo_creepAt_17 : decode b_Mo_creepAt 17 = .ok (.iaload, 1) := by decide +kernel
theorem d_Mo_creepAt_18 : decode b_Mo_creepAt 18 = .ok (.iload_n 1, 1) := by decide +kernel
theorem d_Mo_creepAt_19 : decode b_Mo_creepAt 19 = .ok (.if_icmp .gt (12), 3) := by decide +kernel
theorem d_Mo_creepAt_22 : decode b_Mo_creepAt 22 = .ok (.aload_n 0, 1) := by decide +kernel
theorem d_Mo_creepAt_23 : decode b_Mo_creepAt 23 = .ok (.getfield 28, 3) := by decide +kernel
theorem d_Mo_creepAt_26 : decode b_Mo_creepAt 26 = .ok (.iload_n 3, 1) := by decide +kernel
theorem d_Mo_creepAt_27 : decode b_Mo_creepAt 27 = .ok (.iaload, 1) := by decide +kernel
theorem d_Mo_creepAt_28 : decode b_Mo_creepAt 28 = .ok (.goto (4), 3) := by decide +kernel
theorem d_Mo_creepAt_31 : decode b_Mo_creepAt 31 = .ok (.iload_n 2, 1) := by decide +kernel
theorem d_Mo_creepAt_32 : decode b_Mo_creepAt 32 = .ok (.istore_n 2, 1) := by decide +kernel
theorem d_Mo_creepAt_33 : decode b_Mo_creepAt 33 = .ok (.iinc 3 (1), 3) := by decide +kernel
theorem d_Mo_creepAt_36 : decode b_Mo_creepAt 36 = .ok (.goto (-32), 3) := by decide +kernel
theorem d_Mo_creepAt_39 : decode b_Mo_creepAt 39 = .ok (.iload_n 2, 1) := by decide +kernel
theorem d_Mo_creepAt_40 : decode b_Mo_creepAt 40 = .ok (.ireturn, 1) := by decide +kernel
set_option maxHeartbeats 4000000 in
set_option maxRecDepth 100000 in
theorem c_Mo_creepAt (l : Launch) (dC : Nat → ClassId) (dI : Nat → Nat → Nat) (cI cJ cG cZ : ClassId) (a : Nat → Nat) (fi : Nat → Int32) (fl : Nat → Int64) (ai : Nat → Nat → Int32) (al : Nat → Nat → Int64) (p0 : Int32) (K : Int32 → Prop) (hw : Mo_creepAt_w fi fl ai al p0 K) : Met l y_Mo_creepAt ws_Mo_creepAt ({ frames := 0, cells := 0, slots := 0, locals := 0 }) (va_Pc [.ref (a 0), .int p0] (zw_B (dC, dI) vwCl [(cI, .int), (cJ, .long), (cG, .array .int), (cZ, .boolean)] (mw cI cJ cG cZ a fi fl ai al))) (vp_Si K) 0 0 (fun _ => False) := by
  refine Met.ofW (cc := b_Mo_creepAt) (maxL := 4) (ret := (Option.some FieldType.int)) (by decide) rfl ?_
  intro p e s m args below meth c s₁ B hml hv
  obtain ⟨rfl, hP, hK, hN⟩ := hv
  have hx := B.exec
  have hb := B.bytes
  have hr := B.returns
  have hts := atoms_spec (ws := ws_Mo_creepAt) B.pre
  have ht : ∀ w ∈ zw_tbl, w.before _ s = true := fun w h => hts w (List.mem_cons_of_mem _ h)
  have hown : s.vm.findClass R_Mo = some m.cls := findClass_of_methodNamed B.named
  have hlocks := B.notSynchronized
  have hl := lv_entry ([.ref (a 0), .int p0] : List Value) (n := 4) (Nat.le_of_ble_eq_true rfl)
  rw [lg_entry_eq]
  generalize (lg_sl ([.ref (a 0), .int p0] : List Value) ++ List.replicate (4 - (lg_sl ([.ref (a 0), .int p0] : List Value)).length) Slot.unset).toArray = ls at hl ⊢
  have hl : lv_has ls 4 [(0, .ref (a 0)), (1, .int p0)] := hl
  unfold Mo_creepAt_w at hw
  refine lv_iconst (v := (0 : Int32)) hx hb d_Mo_creepAt_0 (by decide) ?_
  refine lv_topi (fun v1 ev1 => ?_)
  have hw := zw_nm_x ev1 hw
  refine lv_istore_n (lv' := [(2, .int v1), (0, .ref (a 0)), (1, .int p0)]) hx hb d_Mo_creepAt_1 rfl hl (by decide) rfl (fun ls hl => ?_)
  refine lv_iconst (v := (0 : Int32)) hx hb d_Mo_creepAt_2 (by decide) ?_
  refine lv_topi (fun v3 ev3 => ?_)
  have hw := zw_nm_x ev3 hw
  refine lv_istore_n (lv' := [(3, .int v3), (2, .int v1), (0, .ref (a 0)), (1, .int p0)]) hx hb d_Mo_creepAt_3 rfl hl (by decide) rfl (fun ls hl => ?_)
  refine (zw_lp2_i (P := fun (x4_2 : Int32) (x4_3 : Int32) => ∀ (ls : Array Slot), lv_has ls 4 [(0, .ref (a 0)), (1, .int p0), (2, .int x4_2), (3, .int x4_3)] → W p l e (headSpec ws_Mo_creepAt ({ frames := 0, cells := 0, slots := 0, locals := 0 })).room s m ([.ref (a 0), .int p0] : List Value).toArray below meth c s.heap [] 0 0 (MQ below (vp_Si K) ([.ref (a 0), .int p0] : List Value).toArray s 0 0 (fun _ => False)) (F0 m 4 ls [])) hw (fun L4 x4_2 x4_3 ih4 hw ls hl => ?_)) ls (lv_sub hl [2, 3, 1, 0] rfl)
  refine lv_iload_n hx hb d_Mo_creepAt_4 rfl (lv_at hl 3 rfl) ?_
  refine lv_aload_n hx hb d_Mo_creepAt_5 rfl (lv_at hl 0 rfl) ?_
  refine va_get (D := (dC, dI)) (ci := 7) (v := .int (fi 1)) (C := R_Mo) (T := T_Mo) (N := 36) hx hb ht in_Mo hown hK hP 0 rfl rfl 8 (by decide) (ht _ kw_621) (fun _ h9 => h9) rfl d_Mo_creepAt_6 ?_
  refine lv_icmp_ge (tgt := 39) hx hb d_Mo_creepAt_9 (by decide) (fun c9 => ?_) (fun c9 => ?_)
  · have hw := zw_ite_t c9 hw
    refine lv_iload_n hx hb d_Mo_creepAt_39 rfl (lv_at hl 2 rfl) ?_
    exact W.iret (v := x4_2) hx hb hr (fun t ht hW => ⟨x4_2, rfl, hw, ht⟩) t_nil d_Mo_creepAt_40
  · have hw := zw_ite_f c9 hw
    refine lv_aload_n hx hb d_Mo_creepAt_12 rfl (lv_at hl 0 rfl) ?_
    refine va_get (D := (dC, dI)) (ci := 7) (v := .ref (a 6)) (C := R_Mo) (T := T_Mo) (N := 36) hx hb ht in_Mo hown hK hP 0 rfl rfl 6 (by decide) (ht _ kw_619) (fun _ h9 => h9) rfl d_Mo_creepAt_13 ?_
    refine lv_iload_n hx hb d_Mo_creepAt_16 rfl (lv_at hl 3 rfl) ?_
    obtain ⟨h17, hw⟩ := hw
    refine va_iald (f := ai 6) hx hb hK hP 6 0 rfl rfl h17 d_Mo_creepAt_17 ?_
    refine lv_iload_n hx hb d_Mo_creepAt_18 rfl (lv_at hl 1 rfl) ?_
    refine zw_jn1_i (P := fun (y32_0 : Int32) => ∀ (ls : Array Slot), lv_has ls 4 [(0, .ref (a 0)), (1, .int p0), (3, .int x4_3)] → W p l e (headSpec ws_Mo_creepAt ({ frames := 0, cells := 0, slots := 0, locals := 0 })).room s m ([.ref (a 0), .int p0] : List Value).toArray below meth c s.heap [] 0 0 (MQ below (vp_Si K) ([.ref (a 0), .int p0] : List Value).toArray s 0 0 (fun _ => False)) (F0 m 32 ls [.int y32_0])) hw (fun y32_0 hw ls hl => ?_) (fun J32 hj32 hw => ?_)
    · refine lv_istore_n (lv' := [(2, .int y32_0), (0, .ref (a 0)), (1, .int p0), (3, .int x4_3)]) hx hb d_Mo_creepAt_32 rfl hl (by decide) rfl (fun ls hl => ?_)
      obtain ⟨v33, ev33⟩ : ∃ y : Int32, y = x4_3 + (1 : Int32) := ⟨_, rfl⟩
      refine lv_iinc (v := v33) (lv' := [(3, .int v33), (2, .int y32_0), (0, .ref (a 0)), (1, .int p0)]) hx hb d_Mo_creepAt_33 hl (k := 3) rfl (by rw [ev33]; rfl) (by decide) rfl (fun ls hl => ?_)
      have hw := zw_nm_x ev33 hw
      refine lv_goto (tgt := 4) hx hb d_Mo_creepAt_36 (by decide) ?_
      exact (ih4 y32_0 v33 hw) ls (lv_sub hl [2, 3, 1, 0] rfl)
    · refine lv_icmp_gt (tgt := 31) hx hb d_Mo_creepAt_19 (by decide) (fun c19 => ?_) (fun c19 => ?_)
      · have hw := zw_ite_t c19 hw
        refine lv_iload_n hx hb d_Mo_creepAt_31 rfl (lv_at hl 2 rfl) ?_
        exact (hj32 x4_2 hw) ls (lv_sub hl [0, 1, 3] rfl)
      · have hw := zw_ite_f c19 hw
        refine lv_aload_n hx hb d_Mo_creepAt_22 rfl (lv_at hl 0 rfl) ?_
        refine va_get (D := (dC, dI)) (ci := 7) (v := .ref (a 7)) (C := R_Mo) (T := T_Mo) (N := 36) hx hb ht in_Mo hown hK hP 0 rfl rfl 7 (by decide) (ht _ kw_620) (fun _ h9 => h9) rfl d_Mo_creepAt_23 ?_
        refine lv_iload_n hx hb d_Mo_creepAt_26 rfl (lv_at hl 3 rfl) ?_
        obtain ⟨h27, hw⟩ := hw
        refine va_iald (f := ai 7) hx hb hK hP 7 0 rfl rfl h27 d_Mo_creepAt_27 ?_
        refine lv_goto (tgt := 32) hx hb d_Mo_creepAt_28 (by decide) ?_
        exact (hj32 (ai 7 x4_3.toNatClampNeg) hw) ls (lv_sub hl [0, 1, 3] rfl)
def Mo_takePlan_w (fi : Nat → Int32) (fl : Nat → Int64) (ai : Nat → Nat → Int32) (al : Nat → Nat → Int64) (K : (Nat → Int32) → (Nat → Nat → Int32) → Prop) : Prop :=
  zw_nm (va_up fi 8 (0 : Int32)) (fun (fi_2 : Nat → Int32) =>
  zw_nm (0 : Int32) (fun (v6 : Int32) =>
  zw_lp3 (fun L7 (x7_1 : Int32) (fi7 : Nat → Int32) (ai7 : Nat → Nat → Int32) =>
  if (fi7 3) ≤ x7_1 then (
    K fi7 ai7)
  else (
    vp_in x7_1 40 ∧ (
    zw_jn2 (fun (fi49 : Nat → Int32) (ai49 : Nat → Nat → Int32) =>
    zw_nm (x7_1 + (1 : Int32)) (fun (v49 : Int32) =>
    L7 v49 fi49 ai49)) (fun J49 =>
    if (ai7 10 x7_1.toNatClampNeg) = 0 then (
      vp_in x7_1 40 ∧ (
      vp_in (fi7 8) 6 ∧ (zw_nm (va_up ai7 20 (upd (ai7 20) (fi7 8).toNatClampNeg (ai7 11 x7_1.toNatClampNeg))) (fun (ai_38 : Nat → Nat → Int32) =>
      zw_nm (va_up fi7 8 ((fi7 8) + (1 : Int32))) (fun (fi_46 : Nat → Int32) =>
      J49 fi_46 ai_38)))))
    else (
      J49 fi7 ai7))))) v6 fi_2 ai))
theorem d_Mo_takePlan_0 : decode b_Mo_takePlan 0 = .ok (.aload_n 0, 1) := by decide +kernel
theorem d_Mo_takePlan_1 : decode b_Mo_takePlan 1 = .ok (.iconst 0, 1) := by decide +kernel
theorem d_Mo_takePlan_2 : decode b_Mo_takePlan 2 = .ok (.putfield 165, 3) := by decide +kernel
theorem d_Mo_takePlan_5 : decode b_Mo_takePlan 5 = .ok (.iconst 0, 1) := by decide +kernel
theorem d_Mo_takePlan_6 : decode b_Mo_takePlan 6 = .ok (.istore_n 1, 1) := by decide +kernel
theorem d_Mo_takePlan_7 : decode b_Mo_takePlan 7 = .ok (.iload_n 1, 1) := by decide +kernel
theorem d_Mo_takePlan_8 : decode b_Mo_takePlan 8 = .ok (.aload_n 0, 1) := by decide +kernel
theorem d_Mo_takePlan_9 : decode b_Mo_takePlan 9 = .ok (.getfield 133, 3) := by decide +kernel
theorem d_Mo_takePlan_12 : decode b_Mo_takePlan 12 = .ok (.if_icmp .ge (43), 3) := by decide +kernel
theorem d_Mo_takePlan_15 : decode b_Mo_takePlan 15 = .ok (.aload_n 0, 1) := by decide +kernel
theorem d_Mo_takePlan_16 : decode b_Mo_takePlan 16 = .ok (.getfield 38, 3) := by decide +kernel
theorem d_Mo_takePlan_19 : decode b_Mo_takePlan 19 = .ok (.iload_n 1, 1) := by decide +kernel
theorem d_Mo_takePlan_20 : decode b_Mo_takePlan 20 = .ok (.iaload, 1) := by decide +kernel
theorem d_Mo_takePlan_21 : decode b_Mo_takePlan 21 = .ok (.ifCond .ne (28), 3) := by decide +kernel
theorem d_Mo_takePlan_24 : decode b_Mo_takePlan 24 = .ok (.aload_n 0, 1) := by decide +kernel
theorem d_Mo_takePlan_25 : decode b_Mo_takePlan 25 = .ok (.getfield 76, 3) := by decide +kernel
theorem d_Mo_takePlan_28 : decode b_Mo_takePlan 28 = .ok (.aload_n 0, 1) := by decide +kernel
theorem d_Mo_takePlan_29 : decode b_Mo_takePlan 29 = .ok (.getfield 165, 3) := by decide +kernel
theorem d_Mo_takePlan_32 : decode b_Mo_takePlan 32 = .ok (.aload_n 0, 1) := by decide +kernel
theorem d_Mo_takePlan_33 : decode b_Mo_takePlan 33 = .ok (.getfield 41, 3) := by decide +kernel
theorem d_Mo_takePlan_36 : decode b_Mo_takePlan 36 = .ok (.iload_n 1, 1) := by decide +kernel
theorem d_Mo_takePlan_37 : decode b_Mo_takePlan 37 = .ok (.iaload, 1) := by decide +kernel
theorem d_Mo_takePlan_38 : decode b_Mo_takePlan 38 = .ok (.iastore, 1) := by decide +kernel
theorem d_Mo_takePlan_39 : decode b_Mo_takePlan 39 = .ok (.aload_n 0, 1) := by decide +kernel
theorem d_Mo_takePlan_40 : decode b_Mo_takePlan 40 = .ok (.dup, 1) := by decide +kernel
theorem d_Mo_takePlan_41 : decode b_Mo_takePlan 41 = .ok (.getfield 165, 3) := by decide +kernel
theorem d_Mo_takePlan_44 : decode b_Mo_takePlan 44 = .ok (.iconst 1, 1) := by decide +kernel
theorem d_Mo_takePlan_45 : decode b_Mo_takePlan 45 = .ok (.iadd, 1) := by decide +kernel
theorem d_Mo_takePlan_46 : decode b_Mo_takePlan 46 = .ok (.putfield 165, 3) := by decide +kernel
theorem d_Mo_takePlan_49 : decode b_Mo_takePlan 49 = .ok (.iinc 1 (1), 3) := by decide +kernel
theorem d_Mo_takePlan_52 : decode b_Mo_takePlan 52 = .ok (.goto (-45), 3) := by decide +kernel
theorem d_Mo_takePlan_55 : decode b_Mo_takePlan 55 = .ok (.return_, 1) := by decide +kernel
set_option maxHeartbeats 4000000 in
set_option maxRecDepth 100000 in
theorem c_Mo_takePlan (l : Launch) (dC : Nat → ClassId) (dI : Nat → Nat → Nat) (cI cJ cG cZ : ClassId) (a : Nat → Nat) (sz : Nat) (fi : Nat → Int32) (fl : Nat → Int64) (ai : Nat → Nat → Int32) (al : Nat → Nat → Int64) (K : (Nat → Int32) → (Nat → Nat → Int32) → Prop) (hw : Mo_takePlan_w fi fl ai al K) : Met l y_Mo_takePlan ws_Mo_takePlan ({ frames := 0, cells := 0, slots := 0, locals := 0 }) (va_Pc [.ref (a 0)] (zw_Bw (dC, dI) vwCl [(cI, .int), (cJ, .long), (cG, .array .int), (cZ, .boolean)] (mw cI cJ cG cZ a fi fl ai al) sz)) (va_Qv (fun (u : zw_Z) => (zw_k_fi_aiv fl al K) u.1 u.2.1 u.2.2.1 u.2.2.2) (fun u t => zw_E (dC, dI) vwCl [(cI, .int), (cJ, .long), (cG, .array .int), (cZ, .boolean)] (va_A (mw cI cJ cG cZ a fi fl ai al) sz) (mw cI cJ cG cZ a u.1 u.2.1 u.2.2.1 u.2.2.2) t) (va_A (mw cI cJ cG cZ a fi fl ai al) sz)) 0 0 (va_A (mw cI cJ cG cZ a fi fl ai al) sz) := by
  refine Met.ofW (cc := b_Mo_takePlan) (maxL := 2) (ret := (Option.none : Option FieldType)) (by decide) rfl ?_
  intro p e s m args below meth c s₁ B hml hv
  obtain ⟨rfl, hsz, hP, hK, hD0, hN⟩ := hv
  have hx := B.exec
  have hb := B.bytes
  have hr := B.returns
  have hts := atoms_spec (ws := ws_Mo_takePlan) B.pre
  have ht : ∀ w ∈ zw_tbl, w.before _ s = true := fun w h => hts w (List.mem_cons_of_mem _ h)
  have hown : s.vm.findClass R_Mo = some m.cls := findClass_of_methodNamed B.named
  have hlocks := B.notSynchronized
  subst hsz
  have hD := hD0.self (sz := s.heap.size)
  generalize hAe : va_A (mw cI cJ cG cZ a fi fl ai al) s.heap.size = A at hD ⊢
  have hA : ∀ q : Nat, s.heap.size ≤ q → A q := fun q h => by rw [← hAe]; exact Or.inr h
  have hS : va_S A s.heap s.heap [] := va_S.rf
  have hl := lv_entry ([.ref (a 0)] : List Value) (n := 2) (Nat.le_of_ble_eq_true rfl)
  rw [lg_entry_eq]
  generalize (lg_sl ([.ref (a 0)] : List Value) ++ List.replicate (2 - (lg_sl ([.ref (a 0)] : List Value)).length) Slot.unset).toArray = ls at hl ⊢
  have hl : lv_has ls 2 [(0, .ref (a 0))] := hl
  unfold Mo_takePlan_w at hw
  obtain ⟨H, hH⟩ : ∃ H, H = s.heap := ⟨_, rfl⟩
  obtain ⟨locs, hlo⟩ : ∃ q : List Loc, q = [] := ⟨_, rfl⟩
  have hP : va_P (dC, dI) vwCl (mw cI cJ cG cZ a fi fl ai al) H := by rw [hH]; exact hP
  have hS : va_S A s.heap H locs := by rw [hH, hlo]; exact hS
  have key : W p l e (headSpec ws_Mo_takePlan ({ frames := 0, cells := 0, slots := 0, locals := 0 })).room s m ([.ref (a 0)] : List Value).toArray below meth c H locs 0 0 (MQ below (va_Qv (fun (u : zw_Z) => (zw_k_fi_aiv fl al K) u.1 u.2.1 u.2.2.1 u.2.2.2) (fun u t => zw_E (dC, dI) vwCl [(cI, .int), (cJ, .long), (cG, .array .int), (cZ, .boolean)] A (mw cI cJ cG cZ a u.1 u.2.1 u.2.2.1 u.2.2.2) t) A) ([.ref (a 0)] : List Value).toArray s 0 0 A) (F0 m 0 ls []) := by
    refine lv_aload_n hx hb d_Mo_takePlan_0 rfl (lv_at hl 0 rfl) ?_
    refine lv_iconst (v := (0 : Int32)) hx hb d_Mo_takePlan_1 (by decide) ?_
    refine va_put (D := (dC, dI)) (ci := 7) (v := .int (0 : Int32)) (ty := .int) (C := R_Mo) (T := T_Mo) (N := 36) hx hb ht in_Mo t_Mo t_Mo_ok n_Mo hown hK hP hD hS 0 rfl rfl 28 (by decide) (ht _ kw_641) (fun _ h9 => h9) rfl (by decide +kernel) rfl rfl (Nat.le_of_ble_eq_true rfl) d_Mo_takePlan_2 (fun H locs hP hD hS => ?_)
    have hP := mwpfi_8 hP
    have hD := mwdfi_8 hD
    obtain ⟨fi_2, efi_2⟩ : ∃ z, z = va_up fi 8 (0 : Int32) := ⟨_, rfl⟩
    rw [← efi_2] at hP hD
    have hw := zw_nm_x efi_2 hw
    refine lv_iconst (v := (0 : Int32)) hx hb d_Mo_takePlan_5 (by decide) ?_
    refine lv_topi (fun v6 ev6 => ?_)
    have hw := zw_nm_x ev6 hw
    refine lv_istore_n (lv' := [(1, .int v6), (0, .ref (a 0))]) hx hb d_Mo_takePlan_6 rfl hl (by decide) rfl (fun ls hl => ?_)
    refine (zw_lp3_i (P := fun (x7_1 : Int32) (fi7 : Nat → Int32) (ai7 : Nat → Nat → Int32) => ∀ (H : Heap) (locs : List Loc) (ls : Array Slot), va_P (dC, dI) vwCl (mw cI cJ cG cZ a fi7 fl ai7 al) H → va_D A (mw cI cJ cG cZ a fi7 fl ai7 al) → va_S A s.heap H locs → lv_has ls 2 [(0, .ref (a 0)), (1, .int x7_1)] → W p l e (headSpec ws_Mo_takePlan ({ frames := 0, cells := 0, slots := 0, locals := 0 })).room s m ([.ref (a 0)] : List Value).toArray below meth c H locs 0 0 (MQ below (va_Qv (fun (u : zw_Z) => (zw_k_fi_aiv fl al K) u.1 u.2.1 u.2.2.1 u.2.2.2) (fun u t => zw_E (dC, dI) vwCl [(cI, .int), (cJ, .long), (cG, .array .int), (cZ, .boolean)] A (mw cI cJ cG cZ a u.1 u.2.1 u.2.2.1 u.2.2.2) t) A) ([.ref (a 0)] : List Value).toArray s 0 0 A) (F0 m 7 ls [])) hw (fun L7 x7_1 fi7 ai7 ih7 hw H locs ls hP hD hS hl => ?_)) H locs ls hP hD hS (lv_sub hl [1, 0] rfl)
    refine lv_iload_n hx hb d_Mo_takePlan_7 rfl (lv_at hl 1 rfl) ?_
    refine lv_aload_n hx hb d_Mo_takePlan_8 rfl (lv_at hl 0 rfl) ?_
    refine va_get (D := (dC, dI)) (ci := 7) (v := .int (fi7 3)) (C := R_Mo) (T := T_Mo) (N := 36) hx hb ht in_Mo hown hK hP 0 rfl rfl 16 (by decide) (ht _ kw_629) (fun _ h9 => h9) rfl d_Mo_takePlan_9 ?_
    refine lv_icmp_ge (tgt := 55) hx hb d_Mo_takePlan_12 (by decide) (fun c12 => ?_) (fun c12 => ?_)
    · have hw := zw_ite_t c12 hw
      exact W.vret hx hb hr (fun t ht hW => ⟨⟨(fi7, fl, ai7, al), rfl, ⟨rfl, rfl, hw⟩, by rw [ht]; exact hP, va_K.moved hW.alike hK, hD⟩, hS.F ht⟩) hS.2.2 d_Mo_takePlan_55
    · have hw := zw_ite_f c12 hw
      refine lv_aload_n hx hb d_Mo_takePlan_15 rfl (lv_at hl 0 rfl) ?_
      refine va_get (D := (dC, dI)) (ci := 7) (v := .ref (a 10)) (C := R_Mo) (T := T_Mo) (N := 36) hx hb ht in_Mo hown hK hP 0 rfl rfl 12 (by decide) (ht _ kw_625) (fun _ h9 => h9) rfl d_Mo_takePlan_16 ?_
      refine lv_iload_n hx hb d_Mo_takePlan_19 rfl (lv_at hl 1 rfl) ?_
      obtain ⟨h20, hw⟩ := hw
      refine va_iald (f := ai7 10) hx hb hK hP 10 0 rfl rfl h20 d_Mo_takePlan_20 ?_
      refine zw_jn2_i (P := fun (fi49 : Nat → Int32) (ai49 : Nat → Nat → Int32) => ∀ (H : Heap) (locs : List Loc) (ls : Array Slot), va_P (dC, dI) vwCl (mw cI cJ cG cZ a fi49 fl ai49 al) H → va_D A (mw cI cJ cG cZ a fi49 fl ai49 al) → va_S A s.heap H locs → lv_has ls 2 [(0, .ref (a 0)), (1, .int x7_1)] → W p l e (headSpec ws_Mo_takePlan ({ frames := 0, cells := 0, slots := 0, locals := 0 })).room s m ([.ref (a 0)] : List Value).toArray below meth c H locs 0 0 (MQ below (va_Qv (fun (u : zw_Z) => (zw_k_fi_aiv fl al K) u.1 u.2.1 u.2.2.1 u.2.2.2) (fun u t => zw_E (dC, dI) vwCl [(cI, .int), (cJ, .long), (cG, .array .int), (cZ, .boolean)] A (mw cI cJ cG cZ a u.1 u.2.1 u.2.2.1 u.2.2.2) t) A) ([.ref (a 0)] : List Value).toArray s 0 0 A) (F0 m 49 ls [])) hw (fun fi49 ai49 hw H locs ls hP hD hS hl => ?_) (fun J49 hj49 hw => ?_)
      · obtain ⟨v49, ev49⟩ : ∃ y : Int32, y = x7_1 + (1 : Int32) := ⟨_, rfl⟩
        refine lv_iinc (v := v49) (lv' := [(1, .int v49), (0, .ref (a 0))]) hx hb d_Mo_takePlan_49 hl (k := 1) rfl (by rw [ev49]; rfl) (by decide) rfl (fun ls hl => ?_)
        have hw := zw_nm_x ev49 hw
        refine lv_goto (tgt := 7) hx hb d_Mo_takePlan_52 (by decide) ?_
        exact (ih7 v49 fi49 ai49 hw) H locs ls hP hD hS (lv_sub hl [1, 0] rfl)
      · refine lv_if_ne (tgt := 49) hx hb d_Mo_takePlan_21 (by decide) (fun c21 => ?_) (fun c21 => ?_)
        · have hw := zw_ite_f c21 hw
          exact (hj49 fi7 ai7 hw) H locs ls hP hD hS (lv_sub hl [0, 1] rfl)
        · have hw := zw_ite_t c21 hw
          refine lv_aload_n hx hb d_Mo_takePlan_24 rfl (lv_at hl 0 rfl) ?_
          refine va_get (D := (dC, dI)) (ci := 7) (v := .ref (a 20)) (C := R_Mo) (T := T_Mo) (N := 36) hx hb ht in_Mo hown hK hP 0 rfl rfl 27 (by decide) (ht _ kw_640) (fun _ h9 => h9) rfl d_Mo_takePlan_25 ?_
          refine lv_aload_n hx hb d_Mo_takePlan_28 rfl (lv_at hl 0 rfl) ?_
          refine va_get (D := (dC, dI)) (ci := 7) (v := .int (fi7 8)) (C := R_Mo) (T := T_Mo) (N := 36) hx hb ht in_Mo hown hK hP 0 rfl rfl 28 (by decide) (ht _ kw_641) (fun _ h9 => h9) rfl d_Mo_takePlan_29 ?_
          refine lv_aload_n hx hb d_Mo_takePlan_32 rfl (lv_at hl 0 rfl) ?_
          refine va_get (D := (dC, dI)) (ci := 7) (v := .ref (a 11)) (C := R_Mo) (T := T_Mo) (N := 36) hx hb ht in_Mo hown hK hP 0 rfl rfl 13 (by decide) (ht _ kw_626) (fun _ h9 => h9) rfl d_Mo_takePlan_33 ?_
          refine lv_iload_n hx hb d_Mo_takePlan_36 rfl (lv_at hl 1 rfl) ?_
          obtain ⟨h37, hw⟩ := hw
          refine va_iald (f := ai7 11) hx hb hK hP 11 0 rfl rfl h37 d_Mo_takePlan_37 ?_
          obtain ⟨h38, hw⟩ := hw
          refine va_iast (f := ai7 20) hx hb hK hP hD hS 20 0 rfl rfl h38 d_Mo_takePlan_38 (fun H locs hP hD hS => ?_)
          have hP := mwpai_20 hP
          have hD := mwdai_20 hD
          obtain ⟨ai_38, eai_38⟩ : ∃ z, z = va_up ai7 20 (upd (ai7 20) (fi7 8).toNatClampNeg (ai7 11 x7_1.toNatClampNeg)) := ⟨_, rfl⟩
          rw [← eai_38] at hP hD
          have hw := zw_nm_x eai_38 hw
          refine lv_aload_n hx hb d_Mo_takePlan_39 rfl (lv_at hl 0 rfl) ?_
          refine lv_dup hx hb d_Mo_takePlan_40 rfl ?_
          refine va_get (D := (dC, dI)) (ci := 7) (v := .int (fi7 8)) (C := R_Mo) (T := T_Mo) (N := 36) hx hb ht in_Mo hown hK hP 0 rfl rfl 28 (by decide) (ht _ kw_641) (fun _ h9 => h9) rfl d_Mo_takePlan_41 ?_
          refine lv_iconst (v := (1 : Int32)) hx hb d_Mo_takePlan_44 (by decide) ?_
          refine lv_iadd hx hb d_Mo_takePlan_45 ?_
          refine va_put (D := (dC, dI)) (ci := 7) (v := .int ((fi7 8) + (1 : Int32))) (ty := .int) (C := R_Mo) (T := T_Mo) (N := 36) hx hb ht in_Mo t_Mo t_Mo_ok n_Mo hown hK hP hD hS 0 rfl rfl 28 (by decide) (ht _ kw_641) (fun _ h9 => h9) rfl (by decide +kernel) rfl rfl (Nat.le_of_ble_eq_true rfl) d_Mo_takePlan_46 (fun H locs hP hD hS => ?_)
          have hP := mwpfi_8 hP
          have hD := mwdfi_8 hD
          obtain ⟨fi_46, efi_46⟩ : ∃ z, z = va_up fi7 8 ((fi7 8) + (1 : Int32)) := ⟨_, rfl⟩
          rw [← efi_46] at hP hD
          have hw := zw_nm_x efi_46 hw
          exact (hj49 fi_46 ai_38 hw) H locs ls hP hD hS (lv_sub hl [0, 1] rfl)
  rw [hH, hlo] at key
  exact key
def Mo_loadOn_w (fi : Nat → Int32) (fl : Nat → Int64) (ai : Nat → Nat → Int32) (al : Nat → Nat → Int64) (p0 : Int32) (p1 : Int32) (p2 : Int64) (K : (Nat → Nat → Int64) → Prop) : Prop :=
  vp_in (0 : Int32) 3 ∧ (
  zw_jn1 (fun (y14_0 : Int32) =>
  vp_in (1 : Int32) 3 ∧ (
  zw_jn1 (fun (y28_0 : Int32) =>
  vp_in (2 : Int32) 3 ∧ (
  zw_jn1 (fun (y43_0 : Int32) =>
  zw_nm ((y14_0 + y28_0) + y43_0) (fun (v44 : Int32) =>
  zw_nm (0 : Int32) (fun (v47 : Int32) =>
  zw_lp2 (fun L49 (x49_6 : Int32) (al49 : Nat → Nat → Int64) =>
  if (fi 0) ≤ x49_6 then (
    zw_nm (0 : Int32) (fun (v102 : Int32) =>
    zw_lp2 (fun L104 (x104_6 : Int32) (al104 : Nat → Nat → Int64) =>
    if (3 : Int32) ≤ x104_6 then (
      K al104)
    else (
      vp_in x104_6 3 ∧ (
      zw_jn1 (fun (y159_0 : Int64) =>
      vp_in x104_6 3 ∧ (zw_nm (va_up al104 25 (vp_updL (al104 25) x104_6.toNatClampNeg y159_0)) (fun (al_159 : Nat → Nat → Int64) =>
      zw_nm (x104_6 + (1 : Int32)) (fun (v160 : Int32) =>
      L104 v160 al_159)))) (fun J159 =>
      if (ai 24 x104_6.toNatClampNeg) = 0 then (
        vp_in x104_6 3 ∧ (
        J159 (al104 25 x104_6.toNatClampNeg)))
      else (
        vp_in x104_6 3 ∧ (
        vp_in (((6 : Int32) * x104_6) + p1) 18 ∧ (
        J159 ((al104 25 x104_6.toNatClampNeg) + (p2 * (ai 4 (((6 : Int32) * x104_6) + p1).toNatClampNeg).toInt64))))))))) v102 al49))
  else (
    vp_in ((((36 : Int32) * v44) + ((6 : Int32) * x49_6)) + p1) 288 ∧ (
    vp_in (((6 : Int32) * p0) + x49_6) 240 ∧ (zw_nm (va_up al49 21 (vp_updL (al49 21) (((6 : Int32) * p0) + x49_6).toNatClampNeg ((p2 * (ai 3 ((((36 : Int32) * v44) + ((6 : Int32) * x49_6)) + p1).toNatClampNeg).toInt64) * (1000 : Int64)))) (fun (al_94 : Nat → Nat → Int64) =>
    zw_nm (x49_6 + (1 : Int32)) (fun (v95 : Int32) =>
    L49 v95 al_94)))))) v47 al))) (fun J43 =>
  if (ai 24 (2 : Int32).toNatClampNeg) = 0 then (
    J43 (0 : Int32))
  else (
    J43 (4 : Int32))))) (fun J28 =>
  if (ai 24 (1 : Int32).toNatClampNeg) = 0 then (
    J28 (0 : Int32))
  else (
    J28 (2 : Int32))))) (fun J14 =>
  if (ai 24 (0 : Int32).toNatClampNeg) = 0 then (
    J14 (0 : Int32))
  else (
    J14 (1 : Int32))))
theorem d_Mo_loadOn_0 : decode b_Mo_loadOn 0 = .ok (.aload_n 0, 1) := by decide +kernel
theorem d_Mo_loadOn_1 : decode b_Mo_loadOn 1 = .ok (.getfield 88, 3) := by decide +kernel
theorem d_Mo_loadOn_4 : decode b_Mo_loadOn 4 = .ok (.iconst 0, 1) := by decide +kernel
theorem d_Mo_loadOn_5 : decode b_Mo_loadOn 5 = .ok (.baload, 1) := by decide +kernel
theorem d_Mo_loadOn_6 : decode b_Mo_loadOn 6 = .ok (.ifCond .eq (7), 3) := by decide +kernel
theorem d_Mo_loadOn_9 : decode b_Mo_loadOn 9 = .ok (.iconst 1, 1) := by decide +kernel
theorem d_Mo_loadOn_10 : decode b_Mo_loadOn 10 = .ok (.goto (4), 3) := by decide +kernel
theorem d_Mo_loadOn_13 : decode b_Mo_loadOn 13 = .ok (.iconst 0, 1) := by decide +kernel
theorem d_Mo_loadOn_14 : decode b_Mo_loadOn 14 = .ok (.aload_n 0, 1) := by decide +kernel
theorem d_Mo_loadOn_15 : decode b_Mo_loadOn 15 = .ok (.getfield 88, 3) := by decide +kernel
theorem d_Mo_loadOn_18 : decode b_Mo_loadOn 18 = .ok (.iconst 1, 1) := by decide +kernel
theorem d_Mo_loadOn_19 : decode b_Mo_loadOn 19 = .ok (.baload, 1) := by decide +kernel
theorem d_Mo_loadOn_20 : decode b_Mo_loadOn 20 = .ok (.ifCond .eq (7), 3) := by decide +kernel
theorem d_Mo_loadOn_23 : decode b_Mo_loadOn 23 = .ok (.iconst 2, 1) := by decide +kernel
theorem d_Mo_loadOn_24 : decode b_Mo_loadOn 24 = .ok (.goto (4), 3) := by decide +kernel
theorem d_Mo_loadOn_27 : decode b_Mo_loadOn 27 = .ok (.iconst 0, 1) := by decide +kernel
theorem d_Mo_loadOn_28 : decode b_Mo_loadOn 28 = .ok (.iadd, 1) := by decide +kernel
theorem d_Mo_loadOn_29 : decode b_Mo_loadOn 29 = .ok (.aload_n 0, 1) := by decide +kernel
theorem d_Mo_loadOn_30 : decode b_Mo_loadOn 30 = .ok (.getfield 88, 3) := by decide +kernel
theorem d_Mo_loadOn_33 : decode b_Mo_loadOn 33 = .ok (.iconst 2, 1) := by decide +kernel
theorem d_Mo_loadOn_34 : decode b_Mo_loadOn 34 = .ok (.baload, 1) := by decide +kernel
theorem d_Mo_loadOn_35 : decode b_Mo_loadOn 35 = .ok (.ifCond .eq (7), 3) := by decide +kernel
theorem d_Mo_loadOn_38 : decode b_Mo_loadOn 38 = .ok (.iconst 4, 1) := by decide +kernel
theorem d_Mo_loadOn_39 : decode b_Mo_loadOn 39 = .ok (.goto (4), 3) := by decide +kernel
theorem d_Mo_loadOn_42 : decode b_Mo_loadOn 42 = .ok (.iconst 0, 1) := by decide +kernel
theorem d_Mo_loadOn_43 : decode b_Mo_loadOn 43 = .ok (.iadd, 1) := by decide +kernel
theorem d_Mo_loadOn_44 : decode b_Mo_loadOn 44 = .ok (.istore 5, 2) := by decide +kernel
theorem d_Mo_loadOn_46 : decode b_Mo_loadOn 46 = .ok (.iconst 0, 1) := by decide +kernel
theorem d_Mo_loadOn_47 : decode b_Mo_loadOn 47 = .ok (.istore 6, 2) := by decide +kernel
theorem d_Mo_loadOn_49 : decode b_Mo_loadOn 49 = .ok (.iload 6, 2) := by decide +kernel
theorem d_Mo_loadOn_51 : decode b_Mo_loadOn 51 = .ok (.aload_n 0, 1) := by decide +kernel
theorem d_Mo_loadOn_52 : decode b_Mo_loadOn 52 = .ok (.getfield 100, 3) := by decide +kernel
theorem d_Mo_loadOn_55 : decode b_Mo_loadOn 55 = .ok (.if_icmp .ge (46), 3) := by decide +kernel
theorem d_Mo_loadOn_58 : decode b_Mo_loadOn 58 = .ok (.aload_n 0, 1) := by decide +kernel
theorem d_Mo_loadOn_59 : decode b_Mo_loadOn 59 = .ok (.getfield 79, 3) := by decide +kernel
theorem d_Mo_loadOn_62 : decode b_Mo_loadOn 62 = .ok (.bipush (6), 2) := by decide +kernel
theorem d_Mo_loadOn_64 : decode b_Mo_loadOn 64 = .ok (.iload_n 1, 1) := by decide +kernel
theorem d_Mo_loadOn_65 : decode b_Mo_loadOn 65 = .ok (.imul, 1) := by decide +kernel
theorem d_Mo_loadOn_66 : decode b_Mo_loadOn 66 = .ok (.iload 6, 2) := by decide +kernel
theorem d_Mo_loadOn_68 : decode b_Mo_loadOn 68 = .ok (.iadd, 1) := by decide +kernel
theorem d_Mo_loadOn_69 : decode b_Mo_loadOn 69 = .ok (.lload_n 3, 1) := by decide +kernel
theorem d_Mo_loadOn_70 : decode b_Mo_loadOn 70 = .ok (.aload_n 0, 1) := by decide +kernel
theorem d_Mo_loadOn_71 : decode b_Mo_loadOn 71 = .ok (.getfield 16, 3) := by decide +kernel
theorem d_Mo_loadOn_74 : decode b_Mo_loadOn 74 = .ok (.bipush (36), 2) := by decide +kernel
theorem d_Mo_loadOn_76 : decode b_Mo_loadOn 76 = .ok (.iload 5, 2) := by decide +kernel
theorem d_Mo_loadOn_78 : decode b_Mo_loadOn 78 = .ok (.imul, 1) := by decide +kernel
theorem d_Mo_loadOn_79 : decode b_Mo_loadOn 79 = .ok (.bipush (6), 2) := by decide +kernel
theorem d_Mo_loadOn_81 : decode b_Mo_loadOn 81 = .ok (.iload 6, 2) := by decide +kernel
theorem d_Mo_loadOn_83 : decode b_Mo_loadOn 83 = .ok (.imul, 1) := by decide +kernel
theorem d_Mo_loadOn_84 : decode b_Mo_loadOn 84 = .ok (.iadd, 1) := by decide +kernel
theorem d_Mo_loadOn_85 : decode b_Mo_loadOn 85 = .ok (.iload_n 2, 1) := by decide +kernel
theorem d_Mo_loadOn_86 : decode b_Mo_loadOn 86 = .ok (.iadd, 1) := by decide +kernel
theorem d_Mo_loadOn_87 : decode b_Mo_loadOn 87 = .ok (.iaload, 1) := by decide +kernel
theorem d_Mo_loadOn_88 : decode b_Mo_loadOn 88 = .ok (.i2l, 1) := by decide +kernel
theorem d_Mo_loadOn_89 : decode b_Mo_loadOn 89 = .ok (.lmul, 1) := by decide +kernel
theorem d_Mo_loadOn_90 : decode b_Mo_loadOn 90 = .ok (.ldc2_w 114, 3) := by decide +kernel
theorem d_Mo_loadOn_93 : decode b_Mo_loadOn 93 = .ok (.lmul, 1) := by decide +kernel
theorem d_Mo_loadOn_94 : decode b_Mo_loadOn 94 = .ok (.lastore, 1) := by decide +kernel
theorem d_Mo_loadOn_95 : decode b_Mo_loadOn 95 = .ok (.iinc 6 (1), 3) := by decide +kernel
theorem d_Mo_loadOn_98 : decode b_Mo_loadOn 98 = .ok (.goto (-49), 3) := by decide +kernel
theorem d_Mo_loadOn_101 : decode b_Mo_loadOn 101 = .ok (.iconst 0, 1) := by decide +kernel
theorem d_Mo_loadOn_102 : decode b_Mo_loadOn 102 = .ok (.istore 6, 2) := by decide +kernel
theorem d_Mo_loadOn_104 : decode b_Mo_loadOn 104 = .ok (.iload 6, 2) := by decide +kernel
theorem d_Mo_loadOn_106 : decode b_Mo_loadOn 106 = .ok (.iconst 3, 1) := by decide +kernel
theorem d_Mo_loadOn_107 : decode b_Mo_loadOn 107 = .ok (.if_icmp .ge (59), 3) := by decide +kernel
theorem d_Mo_loadOn_110 : decode b_Mo_loadOn 110 = .ok (.aload_n 0, 1) := by decide +kernel
theorem d_Mo_loadOn_111 : decode b_Mo_loadOn 111 = .ok (.getfield 91, 3) := by decide +kernel
theorem d_Mo_loadOn_114 : decode b_Mo_loadOn 114 = .ok (.iload 6, 2) := by decide +kernel
theorem d_Mo_loadOn_116 : decode b_Mo_loadOn 116 = .ok (.aload_n 0, 1) := by decide +kernel
theorem d_Mo_loadOn_117 : decode b_Mo_loadOn 117 = .ok (.getfield 88, 3) := by decide +kernel
theorem d_Mo_loadOn_120 : decode b_Mo_loadOn 120 = .ok (.iload 6, 2) := by decide +kernel
theorem d_Mo_loadOn_122 : decode b_Mo_loadOn 122 = .ok (.baload, 1) := by decide +kernel
theorem d_Mo_loadOn_123 : decode b_Mo_loadOn 123 = .ok (.ifCond .eq (29), 3) := by decide +kernel
theorem d_Mo_loadOn_126 : decode b_Mo_loadOn 126 = .ok (.aload_n 0, 1) := by decide +kernel
theorem d_Mo_loadOn_127 : decode b_Mo_loadOn 127 = .ok (.getfield 91, 3) := by decide +kernel
theorem d_Mo_loadOn_130 : decode b_Mo_loadOn 130 = .ok (.iload 6, 2) := by decide +kernel
theorem d_Mo_loadOn_132 : decode b_Mo_loadOn 132 = .ok (.laload, 1) := by decide +kernel
theorem d_Mo_loadOn_133 : decode b_Mo_loadOn 133 = .ok (.lload_n 3, 1) := by decide +kernel
theorem d_Mo_loadOn_134 : decode b_Mo_loadOn 134 = .ok (.aload_n 0, 1) := by decide +kernel
theorem d_Mo_loadOn_135 : decode b_Mo_loadOn 135 = .ok (.getfield 19, 3) := by decide +kernel
theorem d_Mo_loadOn_138 : decode b_Mo_loadOn 138 = .ok (.bipush (6), 2) := by decide +kernel
theorem d_Mo_loadOn_140 : decode b_Mo_loadOn 140 = .ok (.iload 6, 2) := by decide +kernel
theorem d_Mo_loadOn_142 : decode b_Mo_loadOn 142 = .ok (.imul, 1) := by decide +kernel
theorem d_Mo_loadOn_143 : decode b_Mo_loadOn 143 = .ok (.iload_n 2, 1) := by decide +kernel
theorem d_Mo_loadOn_144 : decode b_Mo_loadOn 144 = .ok (.iadd, 1) := by decide +kernel
theorem d_Mo_loadOn_145 : decode b_Mo_loadOn 145 = .ok (.iaload, 1) := by decide +kernel
theorem d_Mo_loadOn_146 : decode b_Mo_loadOn 146 = .ok (.i2l, 1) := by decide +kernel
theorem d_Mo_loadOn_147 : decode b_Mo_loadOn 147 = .ok (.lmul, 1) := by decide +kernel
theorem d_Mo_loadOn_148 : decode b_Mo_loadOn 148 = .ok (.ladd, 1) := by decide +kernel
theorem d_Mo_loadOn_149 : decode b_Mo_loadOn 149 = .ok (.goto (10), 3) := by decide +kernel
theorem d_Mo_loadOn_152 : decode b_Mo_loadOn 152 = .ok (.aload_n 0, 1) := by decide +kernel
theorem d_Mo_loadOn_153 : decode b_Mo_loadOn 153 = .ok (.getfield 91, 3) := by decide +kernel
theorem d_Mo_loadOn_156 : decode b_Mo_loadOn 156 = .ok (.iload 6, 2) := by decide +kernel
theorem d_Mo_loadOn_158 : decode b_Mo_loadOn 158 = .ok (.laload, 1) := by decide +kernel
theorem d_Mo_loadOn_159 : decode b_Mo_loadOn 159 = .ok (.lastore, 1) := by decide +kernel
theorem d_Mo_loadOn_160 : decode b_Mo_loadOn 160 = .ok (.iinc 6 (1), 3) := by decide +kernel
theorem d_Mo_loadOn_163 : decode b_Mo_loadOn 163 = .ok (.goto (-59), 3) := by decide +kernel
theorem d_Mo_loadOn_166 : decode b_Mo_loadOn 166 = .ok (.return_, 1) := by decide +kernel
set_option maxHeartbeats 4000000 in
set_option maxRecDepth 100000 in
theorem c_Mo_loadOn (l : Launch) (dC : Nat → ClassId) (dI : Nat → Nat → Nat) (cI cJ cG cZ : ClassId) (a : Nat → Nat) (sz : Nat) (fi : Nat → Int32) (fl : Nat → Int64) (ai : Nat → Nat → Int32) (al : Nat → Nat → Int64) (p0 : Int32) (p1 : Int32) (p2 : Int64) (K : (Nat → Nat → Int64) → Prop) (hw : Mo_loadOn_w fi fl ai al p0 p1 p2 K) : Met l y_Mo_loadOn ws_Mo_loadOn ({ frames := 0, cells := 0, slots := 0, locals := 0 }) (va_Pc [.ref (a 0), .int p0, .int p1, .long p2] (zw_Bw (dC, dI) vwCl [(cI, .int), (cJ, .long), (cG, .array .int), (cZ, .boolean)] (mw cI cJ cG cZ a fi fl ai al) sz)) (va_Qv (fun (u : zw_Z) => (zw_k_alv fi fl ai K) u.1 u.2.1 u.2.2.1 u.2.2.2) (fun u t => zw_E (dC, dI) vwCl [(cI, .int), (cJ, .long), (cG, .array .int), (cZ, .boolean)] (va_A (mw cI cJ cG cZ a fi fl ai al) sz) (mw cI cJ cG cZ a u.1 u.2.1 u.2.2.1 u.2.2.2) t) (va_A (mw cI cJ cG cZ a fi fl ai al) sz)) 0 0 (va_A (mw cI cJ cG cZ a fi fl ai al) sz) := by
  refine Met.ofW (cc := b_Mo_loadOn) (maxL := 7) (ret := (Option.none : Option FieldType)) (by decide) rfl ?_
  intro p e s m args below meth c s₁ B hml hv
  obtain ⟨rfl, hsz, hP, hK, hD0, hN⟩ := hv
  have hx := B.exec
  have hb := B.bytes
  have hr := B.returns
  have hts := atoms_spec (ws := ws_Mo_loadOn) B.pre
  have ht : ∀ w ∈ zw_tbl, w.before _ s = true := fun w h => hts w (List.mem_cons_of_mem _ h)
  have hown : s.vm.findClass R_Mo = some m.cls := findClass_of_methodNamed B.named
  have hlocks := B.notSynchronized
  subst hsz
  have hD := hD0.self (sz := s.heap.size)
  generalize hAe : va_A (mw cI cJ cG cZ a fi fl ai al) s.heap.size = A at hD ⊢
  have hA : ∀ q : Nat, s.heap.size ≤ q → A q := fun q h => by rw [← hAe]; exact Or.inr h
  have hS : va_S A s.heap s.heap [] := va_S.rf
  have hl := lv_entry ([.ref (a 0), .int p0, .int p1, .long p2] : List Value) (n := 7) (Nat.le_of_ble_eq_true rfl)
  rw [lg_entry_eq]
  generalize (lg_sl ([.ref (a 0), .int p0, .int p1, .long p2] : List Value) ++ List.replicate (7 - (lg_sl ([.ref (a 0), .int p0, .int p1, .long p2] : List Value)).length) Slot.unset).toArray = ls at hl ⊢
  have hl : lv_has ls 7 [(0, .ref (a 0)), (1, .int p0), (2, .int p1), (3, .long p2)] := hl
  unfold Mo_loadOn_w at hw
  obtain ⟨H, hH⟩ : ∃ H, H = s.heap := ⟨_, rfl⟩
  obtain ⟨locs, hlo⟩ : ∃ q : List Loc, q = [] := ⟨_, rfl⟩
  have hP : va_P (dC, dI) vwCl (mw cI cJ cG cZ a fi fl ai al) H := by rw [hH]; exact hP
  have hS : va_S A s.heap H locs := by rw [hH, hlo]; exact hS
  have key : W p l e (headSpec ws_Mo_loadOn ({ frames := 0, cells := 0, slots := 0, locals := 0 })).room s m ([.ref (a 0), .int p0, .int p1, .long p2] : List Value).toArray below meth c H locs 0 0 (MQ below (va_Qv (fun (u : zw_Z) => (zw_k_alv fi fl ai K) u.1 u.2.1 u.2.2.1 u.2.2.2) (fun u t => zw_E (dC, dI) vwCl [(cI, .int), (cJ, .long), (cG, .array .int), (cZ, .boolean)] A (mw cI cJ cG cZ a u.1 u.2.1 u.2.2.1 u.2.2.2) t) A) ([.ref (a 0), .int p0, .int p1, .long p2] : List Value).toArray s 0 0 A) (F0 m 0 ls []) := by
    refine lv_aload_n hx hb d_Mo_loadOn_0 rfl (lv_at hl 0 rfl) ?_
    refine va_get (D := (dC, dI)) (ci := 7) (v := .ref (a 24)) (C := R_Mo) (T := T_Mo) (N := 36) hx hb ht in_Mo hown hK hP 0 rfl rfl 32 (by decide) (ht _ kw_645) (fun _ h9 => h9) rfl d_Mo_loadOn_1 ?_
    refine lv_iconst (v := (0 : Int32)) hx hb d_Mo_loadOn_4 (by decide) ?_
    obtain ⟨h5, hw⟩ := hw
    refine va_zald (f := ai 24) hx hb hK hP 24 3 rfl rfl h5 d_Mo_loadOn_5 ?_
    refine zw_jn1_i (P := fun (y14_0 : Int32) => ∀ (H : Heap) (locs : List Loc) (ls : Array Slot), va_P (dC, dI) vwCl (mw cI cJ cG cZ a fi fl ai al) H → va_D A (mw cI cJ cG cZ a fi fl ai al) → va_S A s.heap H locs → lv_has ls 7 [(0, .ref (a 0)), (1, .int p0), (2, .int p1), (3, .long p2)] → W p l e (headSpec ws_Mo_loadOn ({ frames := 0, cells := 0, slots := 0, locals := 0 })).room s m ([.ref (a 0), .int p0, .int p1, .long p2] : List Value).toArray below meth c H locs 0 0 (MQ below (va_Qv (fun (u : zw_Z) => (zw_k_alv fi fl ai K) u.1 u.2.1 u.2.2.1 u.2.2.2) (fun u t => zw_E (dC, dI) vwCl [(cI, .int), (cJ, .long), (cG, .array .int), (cZ, .boolean)] A (mw cI cJ cG cZ a u.1 u.2.1 u.2.2.1 u.2.2.2) t) A) ([.ref (a 0), .int p0, .int p1, .long p2] : List Value).toArray s 0 0 A) (F0 m 14 ls [.int y14_0])) hw (fun y14_0 hw H locs ls hP hD hS hl => ?_) (fun J14 hj14 hw => ?_)
    · refine lv_aload_n hx hb d_Mo_loadOn_14 rfl (lv_at hl 0 rfl) ?_
      refine va_get (D := (dC, dI)) (ci := 7) (v := .ref (a 24)) (C := R_Mo) (T := T_Mo) (N := 36) hx hb ht in_Mo hown hK hP 0 rfl rfl 32 (by decide) (ht _ kw_645) (fun _ h9 => h9) rfl d_Mo_loadOn_15 ?_
      refine lv_iconst (v := (1 : Int32)) hx hb d_Mo_loadOn_18 (by decide) ?_
      obtain ⟨h19, hw⟩ := hw
      refine va_zald (f := ai 24) hx hb hK hP 24 3 rfl rfl h19 d_Mo_loadOn_19 ?_
      refine zw_jn1_i (P := fun (y28_0 : Int32) => ∀ (H : Heap) (locs : List Loc) (ls : Array Slot), va_P (dC, dI) vwCl (mw cI cJ cG cZ a fi fl ai al) H → va_D A (mw cI cJ cG cZ a fi fl ai al) → va_S A s.heap H locs → lv_has ls 7 [(0, .ref (a 0)), (1, .int p0), (2, .int p1), (3, .long p2)] → W p l e (headSpec ws_Mo_loadOn ({ frames := 0, cells := 0, slots := 0, locals := 0 })).room s m ([.ref (a 0), .int p0, .int p1, .long p2] : List Value).toArray below meth c H locs 0 0 (MQ below (va_Qv (fun (u : zw_Z) => (zw_k_alv fi fl ai K) u.1 u.2.1 u.2.2.1 u.2.2.2) (fun u t => zw_E (dC, dI) vwCl [(cI, .int), (cJ, .long), (cG, .array .int), (cZ, .boolean)] A (mw cI cJ cG cZ a u.1 u.2.1 u.2.2.1 u.2.2.2) t) A) ([.ref (a 0), .int p0, .int p1, .long p2] : List Value).toArray s 0 0 A) (F0 m 28 ls [.int y28_0, .int y14_0])) hw (fun y28_0 hw H locs ls hP hD hS hl => ?_) (fun J28 hj28 hw => ?_)
      · refine lv_iadd hx hb d_Mo_loadOn_28 ?_
        refine lv_aload_n hx hb d_Mo_loadOn_29 rfl (lv_at hl 0 rfl) ?_
        refine va_get (D := (dC, dI)) (ci := 7) (v := .ref (a 24)) (C := R_Mo) (T := T_Mo) (N := 36) hx hb ht in_Mo hown hK hP 0 rfl rfl 32 (by decide) (ht _ kw_645) (fun _ h9 => h9) rfl d_Mo_loadOn_30 ?_
        refine lv_iconst (v := (2 : Int32)) hx hb d_Mo_loadOn_33 (by decide) ?_
        obtain ⟨h34, hw⟩ := hw
        refine va_zald (f := ai 24) hx hb hK hP 24 3 rfl rfl h34 d_Mo_loadOn_34 ?_
        refine zw_jn1_i (P := fun (y43_0 : Int32) => ∀ (H : Heap) (locs : List Loc) (ls : Array Slot), va_P (dC, dI) vwCl (mw cI cJ cG cZ a fi fl ai al) H → va_D A (mw cI cJ cG cZ a fi fl ai al) → va_S A s.heap H locs → lv_has ls 7 [(0, .ref (a 0)), (1, .int p0), (2, .int p1), (3, .long p2)] → W p l e (headSpec ws_Mo_loadOn ({ frames := 0, cells := 0, slots := 0, locals := 0 })).room s m ([.ref (a 0), .int p0, .int p1, .long p2] : List Value).toArray below meth c H locs 0 0 (MQ below (va_Qv (fun (u : zw_Z) => (zw_k_alv fi fl ai K) u.1 u.2.1 u.2.2.1 u.2.2.2) (fun u t => zw_E (dC, dI) vwCl [(cI, .int), (cJ, .long), (cG, .array .int), (cZ, .boolean)] A (mw cI cJ cG cZ a u.1 u.2.1 u.2.2.1 u.2.2.2) t) A) ([.ref (a 0), .int p0, .int p1, .long p2] : List Value).toArray s 0 0 A) (F0 m 43 ls [.int y43_0, .int (y14_0 + y28_0)])) hw (fun y43_0 hw H locs ls hP hD hS hl => ?_) (fun J43 hj43 hw => ?_)
        · refine lv_iadd hx hb d_Mo_loadOn_43 ?_
          refine lv_topi (fun v44 ev44 => ?_)
          have hw := zw_nm_x ev44 hw
          refine lv_istore (lv' := [(5, .int v44), (0, .ref (a 0)), (1, .int p0), (2, .int p1), (3, .long p2)]) hx hb d_Mo_loadOn_44 hl (by decide) rfl (fun ls hl => ?_)
          refine lv_iconst (v := (0 : Int32)) hx hb d_Mo_loadOn_46 (by decide) ?_
          refine lv_topi (fun v47 ev47 => ?_)
          have hw := zw_nm_x ev47 hw
          refine lv_istore (lv' := [(6, .int v47), (5, .int v44), (0, .ref (a 0)), (1, .int p0), (2, .int p1), (3, .long p2)]) hx hb d_Mo_loadOn_47 hl (by decide) rfl (fun ls hl => ?_)
          refine (zw_lp2_i (P := fun (x49_6 : Int32) (al49 : Nat → Nat → Int64) => ∀ (H : Heap) (locs : List Loc) (ls : Array Slot), va_P (dC, dI) vwCl (mw cI cJ cG cZ a fi fl ai al49) H → va_D A (mw cI cJ cG cZ a fi fl ai al49) → va_S A s.heap H locs → lv_has ls 7 [(0, .ref (a 0)), (1, .int p0), (2, .int p1), (3, .long p2), (5, .int v44), (6, .int x49_6)] → W p l e (headSpec ws_Mo_loadOn ({ frames := 0, cells := 0, slots := 0, locals := 0 })).room s m ([.ref (a 0), .int p0, .int p1, .long p2] : List Value).toArray below meth c H locs 0 0 (MQ below (va_Qv (fun (u : zw_Z) => (zw_k_alv fi fl ai K) u.1 u.2.1 u.2.2.1 u.2.2.2) (fun u t => zw_E (dC, dI) vwCl [(cI, .int), (cJ, .long), (cG, .array .int), (cZ, .boolean)] A (mw cI cJ cG cZ a u.1 u.2.1 u.2.2.1 u.2.2.2) t) A) ([.ref (a 0), .int p0, .int p1, .long p2] : List Value).toArray s 0 0 A) (F0 m 49 ls [])) hw (fun L49 x49_6 al49 ih49 hw H locs ls hP hD hS hl => ?_)) H locs ls hP hD hS (lv_sub hl [2, 3, 4, 5, 1, 0] rfl)
          refine lv_iload hx hb d_Mo_loadOn_49 (lv_at hl 5 rfl) ?_
          refine lv_aload_n hx hb d_Mo_loadOn_51 rfl (lv_at hl 0 rfl) ?_
          refine va_get (D := (dC, dI)) (ci := 7) (v := .int (fi 0)) (C := R_Mo) (T := T_Mo) (N := 36) hx hb ht in_Mo hown hK hP 0 rfl rfl 0 (by decide) (ht _ kw_613) (fun _ h9 => h9) rfl d_Mo_loadOn_52 ?_
          refine lv_icmp_ge (tgt := 101) hx hb d_Mo_loadOn_55 (by decide) (fun c55 => ?_) (fun c55 => ?_)
          · have hw := zw_ite_t c55 hw
            refine lv_iconst (v := (0 : Int32)) hx hb d_Mo_loadOn_101 (by decide) ?_
            refine lv_topi (fun v102 ev102 => ?_)
            have hw := zw_nm_x ev102 hw
            refine lv_istore (lv' := [(6, .int v102), (0, .ref (a 0)), (1, .int p0), (2, .int p1), (3, .long p2), (5, .int v44)]) hx hb d_Mo_loadOn_102 hl (by decide) rfl (fun ls hl => ?_)
            refine (zw_lp2_i (P := fun (x104_6 : Int32) (al104 : Nat → Nat → Int64) => ∀ (H : Heap) (locs : List Loc) (ls : Array Slot), va_P (dC, dI) vwCl (mw cI cJ cG cZ a fi fl ai al104) H → va_D A (mw cI cJ cG cZ a fi fl ai al104) → va_S A s.heap H locs → lv_has ls 7 [(0, .ref (a 0)), (2, .int p1), (3, .long p2), (6, .int x104_6)] → W p l e (headSpec ws_Mo_loadOn ({ frames := 0, cells := 0, slots := 0, locals := 0 })).room s m ([.ref (a 0), .int p0, .int p1, .long p2] : List Value).toArray below meth c H locs 0 0 (MQ below (va_Qv (fun (u : zw_Z) => (zw_k_alv fi fl ai K) u.1 u.2.1 u.2.2.1 u.2.2.2) (fun u t => zw_E (dC, dI) vwCl [(cI, .int), (cJ, .long), (cG, .array .int), (cZ, .boolean)] A (mw cI cJ cG cZ a u.1 u.2.1 u.2.2.1 u.2.2.2) t) A) ([.ref (a 0), .int p0, .int p1, .long p2] : List Value).toArray s 0 0 A) (F0 m 104 ls [])) hw (fun L104 x104_6 al104 ih104 hw H locs ls hP hD hS hl => ?_)) H locs ls hP hD hS (lv_sub hl [1, 3, 4, 0] rfl)
            refine lv_iload hx hb d_Mo_loadOn_104 (lv_at hl 3 rfl) ?_
            refine lv_iconst (v := (3 : Int32)) hx hb d_Mo_loadOn_106 (by decide) ?_
            refine lv_icmp_ge (tgt := 166) hx hb d_Mo_loadOn_107 (by decide) (fun c107 => ?_) (fun c107 => ?_)
            · have hw := zw_ite_t c107 hw
              exact W.vret hx hb hr (fun t ht hW => ⟨⟨(fi, fl, ai, al104), rfl, ⟨rfl, rfl, rfl, hw⟩, by rw [ht]; exact hP, va_K.moved hW.alike hK, hD⟩, hS.F ht⟩) hS.2.2 d_Mo_loadOn_166
            · have hw := zw_ite_f c107 hw
              refine lv_aload_n hx hb d_Mo_loadOn_110 rfl (lv_at hl 0 rfl) ?_
              refine va_get (D := (dC, dI)) (ci := 7) (v := .ref (a 25)) (C := R_Mo) (T := T_Mo) (N := 36) hx hb ht in_Mo hown hK hP 0 rfl rfl 33 (by decide) (ht _ kw_646) (fun _ h9 => h9) rfl d_Mo_loadOn_111 ?_
              refine lv_iload hx hb d_Mo_loadOn_114 (lv_at hl 3 rfl) ?_
              refine lv_aload_n hx hb d_Mo_loadOn_116 rfl (lv_at hl 0 rfl) ?_
              refine va_get (D := (dC, dI)) (ci := 7) (v := .ref (a 24)) (C := R_Mo) (T := T_Mo) (N := 36) hx hb ht in_Mo hown hK hP 0 rfl rfl 32 (by decide) (ht _ kw_645) (fun _ h9 => h9) rfl d_Mo_loadOn_117 ?_
              refine lv_iload hx hb d_Mo_loadOn_120 (lv_at hl 3 rfl) ?_
              obtain ⟨h122, hw⟩ := hw
              refine va_zald (f := ai 24) hx hb hK hP 24 3 rfl rfl h122 d_Mo_loadOn_122 ?_
              refine zw_jn1_i (P := fun (y159_0 : Int64) => ∀ (H : Heap) (locs : List Loc) (ls : Array Slot), va_P (dC, dI) vwCl (mw cI cJ cG cZ a fi fl ai al104) H → va_D A (mw cI cJ cG cZ a fi fl ai al104) → va_S A s.heap H locs → lv_has ls 7 [(0, .ref (a 0)), (2, .int p1), (3, .long p2), (6, .int x104_6)] → W p l e (headSpec ws_Mo_loadOn ({ frames := 0, cells := 0, slots := 0, locals := 0 })).room s m ([.ref (a 0), .int p0, .int p1, .long p2] : List Value).toArray below meth c H locs 0 0 (MQ below (va_Qv (fun (u : zw_Z) => (zw_k_alv fi fl ai K) u.1 u.2.1 u.2.2.1 u.2.2.2) (fun u t => zw_E (dC, dI) vwCl [(cI, .int), (cJ, .long), (cG, .array .int), (cZ, .boolean)] A (mw cI cJ cG cZ a u.1 u.2.1 u.2.2.1 u.2.2.2) t) A) ([.ref (a 0), .int p0, .int p1, .long p2] : List Value).toArray s 0 0 A) (F0 m 159 ls [.long y159_0, .int x104_6, .ref (a 25)])) hw (fun y159_0 hw H locs ls hP hD hS hl => ?_) (fun J159 hj159 hw => ?_)
              · obtain ⟨h159, hw⟩ := hw
                refine va_last (f := al104 25) hx hb hK hP hD hS 25 1 rfl rfl h159 d_Mo_loadOn_159 (fun H locs hP hD hS => ?_)
                have hP := mwpal_25 hP
                have hD := mwdal_25 hD
                obtain ⟨al_159, eal_159⟩ : ∃ z, z = va_up al104 25 (vp_updL (al104 25) x104_6.toNatClampNeg y159_0) := ⟨_, rfl⟩
                rw [← eal_159] at hP hD
                have hw := zw_nm_x eal_159 hw
                obtain ⟨v160, ev160⟩ : ∃ y : Int32, y = x104_6 + (1 : Int32) := ⟨_, rfl⟩
                refine lv_iinc (v := v160) (lv' := [(6, .int v160), (0, .ref (a 0)), (2, .int p1), (3, .long p2)]) hx hb d_Mo_loadOn_160 hl (k := 3) rfl (by rw [ev160]; rfl) (by decide) rfl (fun ls hl => ?_)
                have hw := zw_nm_x ev160 hw
                refine lv_goto (tgt := 104) hx hb d_Mo_loadOn_163 (by decide) ?_
                exact (ih104 v160 al_159 hw) H locs ls hP hD hS (lv_sub hl [1, 2, 3, 0] rfl)
              · refine lv_if_eq (tgt := 152) hx hb d_Mo_loadOn_123 (by decide) (fun c123 => ?_) (fun c123 => ?_)
                · have hw := zw_ite_t c123 hw
                  refine lv_aload_n hx hb d_Mo_loadOn_152 rfl (lv_at hl 0 rfl) ?_
                  refine va_get (D := (dC, dI)) (ci := 7) (v := .ref (a 25)) (C := R_Mo) (T := T_Mo) (N := 36) hx hb ht in_Mo hown hK hP 0 rfl rfl 33 (by decide) (ht _ kw_646) (fun _ h9 => h9) rfl d_Mo_loadOn_153 ?_
                  refine lv_iload hx hb d_Mo_loadOn_156 (lv_at hl 3 rfl) ?_
                  obtain ⟨h158, hw⟩ := hw
                  refine va_lald (f := al104 25) hx hb hK hP 25 1 rfl rfl h158 d_Mo_loadOn_158 ?_
                  exact (hj159 (al104 25 x104_6.toNatClampNeg) hw) H locs ls hP hD hS (lv_sub hl [0, 1, 2, 3] rfl)
                · have hw := zw_ite_f c123 hw
                  refine lv_aload_n hx hb d_Mo_loadOn_126 rfl (lv_at hl 0 rfl) ?_
                  refine va_get (D := (dC, dI)) (ci := 7) (v := .ref (a 25)) (C := R_Mo) (T := T_Mo) (N := 36) hx hb ht in_Mo hown hK hP 0 rfl rfl 33 (by decide) (ht _ kw_646) (fun _ h9 => h9) rfl d_Mo_loadOn_127 ?_
                  refine lv_iload hx hb d_Mo_loadOn_130 (lv_at hl 3 rfl) ?_
                  obtain ⟨h132, hw⟩ := hw
                  refine va_lald (f := al104 25) hx hb hK hP 25 1 rfl rfl h132 d_Mo_loadOn_132 ?_
                  refine lv_lload_n hx hb d_Mo_loadOn_133 rfl (lv_at hl 2 rfl) ?_
                  refine lv_aload_n hx hb d_Mo_loadOn_134 rfl (lv_at hl 0 rfl) ?_
                  refine va_get (D := (dC, dI)) (ci := 7) (v := .ref (a 4)) (C := R_Mo) (T := T_Mo) (N := 36) hx hb ht in_Mo hown hK hP 0 rfl rfl 4 (by decide) (ht _ kw_617) (fun _ h9 => h9) rfl d_Mo_loadOn_135 ?_
                  refine lv_bipush (v := (6 : Int32)) hx hb d_Mo_loadOn_138 (by decide) ?_
                  refine lv_iload hx hb d_Mo_loadOn_140 (lv_at hl 3 rfl) ?_
                  refine lv_imul hx hb d_Mo_loadOn_142 ?_
                  refine lv_iload_n hx hb d_Mo_loadOn_143 rfl (lv_at hl 1 rfl) ?_
                  refine lv_iadd hx hb d_Mo_loadOn_144 ?_
                  obtain ⟨h145, hw⟩ := hw
                  refine va_iald (f := ai 4) hx hb hK hP 4 0 rfl rfl h145 d_Mo_loadOn_145 ?_
                  refine lv_i2l hx hb d_Mo_loadOn_146 rfl ?_
                  refine lv_lmul hx hb d_Mo_loadOn_147 ?_
                  refine lv_ladd hx hb d_Mo_loadOn_148 ?_
                  refine lv_goto (tgt := 159) hx hb d_Mo_loadOn_149 (by decide) ?_
                  exact (hj159 ((al104 25 x104_6.toNatClampNeg) + (p2 * (ai 4 (((6 : Int32) * x104_6) + p1).toNatClampNeg).toInt64)) hw) H locs ls hP hD hS (lv_sub hl [0, 1, 2, 3] rfl)
          · have hw := zw_ite_f c55 hw
            refine lv_aload_n hx hb d_Mo_loadOn_58 rfl (lv_at hl 0 rfl) ?_
            refine va_get (D := (dC, dI)) (ci := 7) (v := .ref (a 21)) (C := R_Mo) (T := T_Mo) (N := 36) hx hb ht in_Mo hown hK hP 0 rfl rfl 29 (by decide) (ht _ kw_642) (fun _ h9 => h9) rfl d_Mo_loadOn_59 ?_
            refine lv_bipush (v := (6 : Int32)) hx hb d_Mo_loadOn_62 (by decide) ?_
            refine lv_iload_n hx hb d_Mo_loadOn_64 rfl (lv_at hl 1 rfl) ?_
            refine lv_imul hx hb d_Mo_loadOn_65 ?_
            refine lv_iload hx hb d_Mo_loadOn_66 (lv_at hl 5 rfl) ?_
            refine lv_iadd hx hb d_Mo_loadOn_68 ?_
            refine lv_lload_n hx hb d_Mo_loadOn_69 rfl (lv_at hl 3 rfl) ?_
            refine lv_aload_n hx hb d_Mo_loadOn_70 rfl (lv_at hl 0 rfl) ?_
            refine va_get (D := (dC, dI)) (ci := 7) (v := .ref (a 3)) (C := R_Mo) (T := T_Mo) (N := 36) hx hb ht in_Mo hown hK hP 0 rfl rfl 3 (by decide) (ht _ kw_616) (fun _ h9 => h9) rfl d_Mo_loadOn_71 ?_
            refine lv_bipush (v := (36 : Int32)) hx hb d_Mo_loadOn_74 (by decide) ?_
            refine lv_iload hx hb d_Mo_loadOn_76 (lv_at hl 4 rfl) ?_
            refine lv_imul hx hb d_Mo_loadOn_78 ?_
            refine lv_bipush (v := (6 : Int32)) hx hb d_Mo_loadOn_79 (by decide) ?_
            refine lv_iload hx hb d_Mo_loadOn_81 (lv_at hl 5 rfl) ?_
            refine lv_imul hx hb d_Mo_loadOn_83 ?_
            refine lv_iadd hx hb d_Mo_loadOn_84 ?_
            refine lv_iload_n hx hb d_Mo_loadOn_85 rfl (lv_at hl 2 rfl) ?_
            refine lv_iadd hx hb d_Mo_loadOn_86 ?_
            obtain ⟨h87, hw⟩ := hw
            refine va_iald (f := ai 3) hx hb hK hP 3 0 rfl rfl h87 d_Mo_loadOn_87 ?_
            refine lv_i2l hx hb d_Mo_loadOn_88 rfl ?_
            refine lv_lmul hx hb d_Mo_loadOn_89 ?_
            refine lv_ldc2 (v := (1000 : Int64)) hx hb hown (hts (.constantLong R_Mo 114 (1000 : Int64)) (by decide +kernel)) d_Mo_loadOn_90 ?_
            refine lv_lmul hx hb d_Mo_loadOn_93 ?_
            obtain ⟨h94, hw⟩ := hw
            refine va_last (f := al49 21) hx hb hK hP hD hS 21 1 rfl rfl h94 d_Mo_loadOn_94 (fun H locs hP hD hS => ?_)
            have hP := mwpal_21 hP
            have hD := mwdal_21 hD
            obtain ⟨al_94, eal_94⟩ : ∃ z, z = va_up al49 21 (vp_updL (al49 21) (((6 : Int32) * p0) + x49_6).toNatClampNeg ((p2 * (ai 3 ((((36 : Int32) * v44) + ((6 : Int32) * x49_6)) + p1).toNatClampNeg).toInt64) * (1000 : Int64))) := ⟨_, rfl⟩
            rw [← eal_94] at hP hD
            have hw := zw_nm_x eal_94 hw
            obtain ⟨v95, ev95⟩ : ∃ y : Int32, y = x49_6 + (1 : Int32) := ⟨_, rfl⟩
            refine lv_iinc (v := v95) (lv' := [(6, .int v95), (0, .ref (a 0)), (1, .int p0), (2, .int p1), (3, .long p2), (5, .int v44)]) hx hb d_Mo_loadOn_95 hl (k := 5) rfl (by rw [ev95]; rfl) (by decide) rfl (fun ls hl => ?_)
            have hw := zw_nm_x ev95 hw
            refine lv_goto (tgt := 49) hx hb d_Mo_loadOn_98 (by decide) ?_
            exact (ih49 v95 al_94 hw) H locs ls hP hD hS (lv_sub hl [1, 2, 3, 4, 5, 0] rfl)
        · refine lv_if_eq (tgt := 42) hx hb d_Mo_loadOn_35 (by decide) (fun c35 => ?_) (fun c35 => ?_)
          · have hw := zw_ite_t c35 hw
            refine lv_iconst (v := (0 : Int32)) hx hb d_Mo_loadOn_42 (by decide) ?_
            exact (hj43 (0 : Int32) hw) H locs ls hP hD hS (lv_sub hl [0, 1, 2, 3] rfl)
          · have hw := zw_ite_f c35 hw
            refine lv_iconst (v := (4 : Int32)) hx hb d_Mo_loadOn_38 (by decide) ?_
            refine lv_goto (tgt := 43) hx hb d_Mo_loadOn_39 (by decide) ?_
            exact (hj43 (4 : Int32) hw) H locs ls hP hD hS (lv_sub hl [0, 1, 2, 3] rfl)
      · refine lv_if_eq (tgt := 27) hx hb d_Mo_loadOn_20 (by decide) (fun c20 => ?_) (fun c20 => ?_)
        · have hw := zw_ite_t c20 hw
          refine lv_iconst (v := (0 : Int32)) hx hb d_Mo_loadOn_27 (by decide) ?_
          exact (hj28 (0 : Int32) hw) H locs ls hP hD hS (lv_sub hl [0, 1, 2, 3] rfl)
        · have hw := zw_ite_f c20 hw
          refine lv_iconst (v := (2 : Int32)) hx hb d_Mo_loadOn_23 (by decide) ?_
          refine lv_goto (tgt := 28) hx hb d_Mo_loadOn_24 (by decide) ?_
          exact (hj28 (2 : Int32) hw) H locs ls hP hD hS (lv_sub hl [0, 1, 2, 3] rfl)
    · refine lv_if_eq (tgt := 13) hx hb d_Mo_loadOn_6 (by decide) (fun c6 => ?_) (fun c6 => ?_)
      · have hw := zw_ite_t c6 hw
        refine lv_iconst (v := (0 : Int32)) hx hb d_Mo_loadOn_13 (by decide) ?_
        exact (hj14 (0 : Int32) hw) H locs ls hP hD hS (lv_sub hl [0, 1, 2, 3] rfl)
      · have hw := zw_ite_f c6 hw
        refine lv_iconst (v := (1 : Int32)) hx hb d_Mo_loadOn_9 (by decide) ?_
        refine lv_goto (tgt := 14) hx hb d_Mo_loadOn_10 (by decide) ?_
        exact (hj14 (1 : Int32) hw) H locs ls hP hD hS (lv_sub hl [0, 1, 2, 3] rfl)
  rw [hH, hlo] at key
  exact key
