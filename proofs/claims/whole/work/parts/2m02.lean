def Mo_stage_w (fi : Nat → Int32) (fl : Nat → Int64) (ai : Nat → Nat → Int32) (al : Nat → Nat → Int64) (p0 : Int32) (K : Int64 → (Nat → Int32) → (Nat → Nat → Int32) → Prop) : Prop :=
  Mo_in_w p0.toInt64 (0 : Int64) (20000 : Int64) (fun (r6 : Int32) =>
  if r6 = 0 then (
    K (-1000000000000000000 : Int64) fi ai)
  else (
    Mo_lastDay_w fi fl ai al  (fun (r14 : Int32) =>
    if p0 ≤ r14 then (
      K (-1000000000000000000 : Int64) fi ai)
    else (
      if (fi 2) = (12 : Int32) then (
        K (-1000000000000000000 : Int64) fi ai)
      else (
        vp_in (fi 2) 12 ∧ (zw_nm (va_up ai 9 (upd (ai 9) (fi 2).toNatClampNeg p0)) (fun (ai_42 : Nat → Nat → Int32) =>
        zw_nm (va_up fi 2 ((fi 2) + (1 : Int32))) (fun (fi_50 : Nat → Int32) =>
        Mo_lookAtEnd_w fi_50 fl ai_42 al  (fun (fi_54 : Nat → Int32) =>
        K (((fi_54 2) - (1 : Int32)).toInt64) fi_54 ai_42)))))))))
theorem d_Mo_stage_0 : decode b_Mo_stage 0 = .ok (.iload_n 1, 1) := by decide +kernel
theorem d_Mo_stage_1 : decode b_Mo_stage 1 = .ok (.i2l, 1) := by decide +kernel
theorem d_Mo_stage_2 : decode b_Mo_stage 2 = .ok (.lconst 0, 1) := by decide +kernel
theorem d_Mo_stage_3 : decode b_Mo_stage 3 = .ok (.ldc2_w 129, 3) := by decide +kernel
theorem d_Mo_stage_6 : decode b_Mo_stage 6 = .ok (.invokestatic 103, 3) := by decide +kernel
theorem d_Mo_stage_9 : decode b_Mo_stage 9 = .ok (.ifCond .eq (20), 3) := by decide +kernel
theorem d_Mo_stage_12 : decode b_Mo_stage 12 = .ok (.iload_n 1, 1) := by decide +kernel
theorem d_Mo_stage_13 : decode b_Mo_stage 13 = .ok (.aload_n 0, 1) := by decide +kernel
theorem d_Mo_stage_14 : decode b_Mo_stage 14 = .ok (.invokevirtual 144, 3) := by decide +kernel
theorem d_Mo_stage_17 : decode b_Mo_stage 17 = .ok (.if_icmp .le (12), 3) := by decide +kernel
theorem d_Mo_stage_20 : decode b_Mo_stage 20 = .ok (.aload_n 0, 1) := by decide +kernel
theorem d_Mo_stage_21 : decode b_Mo_stage 21 = .ok (.getfield 107, 3) := by decide +kernel
theorem d_Mo_stage_24 : decode b_Mo_stage 24 = .ok (.bipush (12), 2) := by decide +kernel
theorem d_Mo_stage_26 : decode b_Mo_stage 26 = .ok (.if_icmp .ne (7), 3) := by decide +kernel
theorem d_Mo_stage_29 : decode b_Mo_stage 29 = .ok (.ldc2_w 148, 3) := by decide +kernel
theorem d_Mo_stage_32 : decode b_Mo_stage 32 = .ok (.lreturn, 1) := by decide +kernel
theorem d_Mo_stage_33 : decode b_Mo_stage 33 = .ok (.aload_n 0, 1) := by decide +kernel
theorem d_Mo_stage_34 : decode b_Mo_stage 34 = .ok (.getfield 35, 3) := by decide +kernel
theorem d_Mo_stage_37 : decode b_Mo_stage 37 = .ok (.aload_n 0, 1) := by decide +kernel
theorem d_Mo_stage_38 : decode b_Mo_stage 38 = .ok (.getfield 107, 3) := by decide +kernel
theorem d_Mo_stage_41 : decode b_Mo_stage 41 = .ok (.iload_n 1, 1) := by decide +kernel
theorem d_Mo_stage_42 : decode b_Mo_stage 42 = .ok (.iastore, 1) := by decide +kernel
theorem d_Mo_stage_43 : decode b_Mo_stage 43 = .ok (.aload_n 0, 1) := by decide +kernel
theorem d_Mo_stage_44 : decode b_Mo_stage 44 = .ok (.dup, 1) := by decide +kernel
theorem d_Mo_stage_45 : decode b_Mo_stage 45 = .ok (.getfield 107, 3) := by decide +kernel
theorem d_Mo_stage_48 : decode b_Mo_stage 48 = .ok (.iconst 1, 1) := by decide +kernel
theorem d_Mo_stage_49 : decode b_Mo_stage 49 = .ok (.iadd, 1) := by decide +kernel
theorem d_Mo_stage_50 : decode b_Mo_stage 50 = .ok (.putfield 107, 3) := by decide +kernel
theorem d_Mo_stage_53 : decode b_Mo_stage 53 = .ok (.aload_n 0, 1) := by decide +kernel
theorem d_Mo_stage_54 : decode b_Mo_stage 54 = .ok (.invokevirtual 150, 3) := by decide +kernel
theorem d_Mo_stage_57 : decode b_Mo_stage 57 = .ok (.aload_n 0, 1) := by decide +kernel
theorem d_Mo_stage_58 : decode b_Mo_stage 58 = .ok (.getfield 107, 3) := by decide +kernel
theorem d_Mo_stage_61 : decode b_Mo_stage 61 = .ok (.iconst 1, 1) := by decide +kernel
theorem d_Mo_stage_62 : decode b_Mo_stage 62 = .ok (.isub, 1) := by decide +kernel
theorem d_Mo_stage_63 : decode b_Mo_stage 63 = .ok (.i2l, 1) := by decide +kernel
theorem d_Mo_stage_64 : decode b_Mo_stage 64 = .ok (.lreturn, 1) := by decide +kernel
set_option maxHeartbeats 4000000 in
set_option maxRecDepth 100000 in
theorem c_Mo_stage (l : Launch) (dC : Nat → ClassId) (dI : Nat → Nat → Nat) (cI cJ cG cZ : ClassId) (a : Nat → Nat) (sz : Nat) (fi : Nat → Int32) (fl : Nat → Int64) (ai : Nat → Nat → Int32) (al : Nat → Nat → Int64) (p0 : Int32) (K : Int64 → (Nat → Int32) → (Nat → Nat → Int32) → Prop) (hw : Mo_stage_w fi fl ai al p0 K) : Met l y_Mo_stage ws_Mo_stage ({ frames := 2, cells := 0, slots := 0, locals := 40 }) (va_Pc [.ref (a 0), .int p0] (zw_Bw (dC, dI) vwCl [(cI, .int), (cJ, .long), (cG, .array .int), (cZ, .boolean)] (mw cI cJ cG cZ a fi fl ai al) sz)) (va_Ql (fun r (u : zw_Z) => (zw_k_fi_air fl al K) r u.1 u.2.1 u.2.2.1 u.2.2.2) (fun u t => zw_E (dC, dI) vwCl [(cI, .int), (cJ, .long), (cG, .array .int), (cZ, .boolean)] (va_A (mw cI cJ cG cZ a fi fl ai al) sz) (mw cI cJ cG cZ a u.1 u.2.1 u.2.2.1 u.2.2.2) t) (va_A (mw cI cJ cG cZ a fi fl ai al) sz)) 0 0 (va_A (mw cI cJ cG cZ a fi fl ai al) sz) := by
  refine Met.ofW (cc := b_Mo_stage) (maxL := 2) (ret := (Option.some FieldType.long)) (by decide) rfl ?_
  intro p e s m args below meth c s₁ B hml hv
  obtain ⟨rfl, hsz, hP, hK, hD0, hN⟩ := hv
  have hx := B.exec
  have hb := B.bytes
  have hr := B.returns
  have hts := atoms_spec (ws := ws_Mo_stage) B.pre
  have ht : ∀ w ∈ zw_tbl, w.before _ s = true := fun w h => hts w (List.mem_cons_of_mem _ h)
  have hown : s.vm.findClass R_Mo = some m.cls := findClass_of_methodNamed B.named
  have hlocks := B.notSynchronized
  subst hsz
  have hD := hD0.self (sz := s.heap.size)
  generalize hAe : va_A (mw cI cJ cG cZ a fi fl ai al) s.heap.size = A at hD ⊢
  have hA : ∀ q : Nat, s.heap.size ≤ q → A q := fun q h => by rw [← hAe]; exact Or.inr h
  have hS : va_S A s.heap s.heap [] := va_S.rf
  have hl := lv_entry ([.ref (a 0), .int p0] : List Value) (n := 2) (Nat.le_of_ble_eq_true rfl)
  rw [lg_entry_eq]
  generalize (lg_sl ([.ref (a 0), .int p0] : List Value) ++ List.replicate (2 - (lg_sl ([.ref (a 0), .int p0] : List Value)).length) Slot.unset).toArray = ls at hl ⊢
  have hl : lv_has ls 2 [(0, .ref (a 0)), (1, .int p0)] := hl
  unfold Mo_stage_w at hw
  obtain ⟨H, hH⟩ : ∃ H, H = s.heap := ⟨_, rfl⟩
  obtain ⟨locs, hlo⟩ : ∃ q : List Loc, q = [] := ⟨_, rfl⟩
  have hP : va_P (dC, dI) vwCl (mw cI cJ cG cZ a fi fl ai al) H := by rw [hH]; exact hP
  have hS : va_S A s.heap H locs := by rw [hH, hlo]; exact hS
  have key : W p l e (headSpec ws_Mo_stage ({ frames := 2, cells := 0, slots := 0, locals := 40 })).room s m ([.ref (a 0), .int p0] : List Value).toArray below meth c H locs 0 0 (MQ below (va_Ql (fun r (u : zw_Z) => (zw_k_fi_air fl al K) r u.1 u.2.1 u.2.2.1 u.2.2.2) (fun u t => zw_E (dC, dI) vwCl [(cI, .int), (cJ, .long), (cG, .array .int), (cZ, .boolean)] A (mw cI cJ cG cZ a u.1 u.2.1 u.2.2.1 u.2.2.2) t) A) ([.ref (a 0), .int p0] : List Value).toArray s 0 0 A) (F0 m 0 ls []) := by
    refine lv_iload_n hx hb d_Mo_stage_0 rfl (lv_at hl 1 rfl) ?_
    refine lv_i2l hx hb d_Mo_stage_1 rfl ?_
    refine lv_lconst (v := (0 : Int64)) hx hb d_Mo_stage_2 (by decide) ?_
    refine lv_ldc2 (v := (20000 : Int64)) hx hb hown (hts (.constantLong R_Mo 129 (20000 : Int64)) (by decide +kernel)) d_Mo_stage_3 ?_
    refine vp_callSi (va_Run.run (va_runS (As := [.long p0.toInt64, .long (0 : Int64), .long (20000 : Int64)]) (rest := []) ⟨hx, hb, hml, hown, hts⟩ (c_Mo_in l p0.toInt64 (0 : Int64) (20000 : Int64) _ hw) (va_cwS 3 hts (zw_goodS kw_731 kw_732 kw_9 kw_733) rfl rfl rfl hd_Mo_in.2 ⟨Nat.le_of_ble_eq_true rfl, Nat.le_of_ble_eq_true rfl⟩) zw_preS0 rfl rfl hl.1 rfl (lv_room (Nat.le_of_ble_eq_true rfl)) d_Mo_stage_6 ⟨Nat.le_of_ble_eq_true rfl, Nat.le_of_ble_eq_true rfl⟩)) (fun r6 hw => ?_)
    refine lv_if_eq (tgt := 29) hx hb d_Mo_stage_9 (by decide) (fun c9 => ?_) (fun c9 => ?_)
    · have hw := zw_ite_t c9 hw
      refine lv_ldc2 (v := (-1000000000000000000 : Int64)) hx hb hown (hts (.constantLong R_Mo 148 (-1000000000000000000 : Int64)) (by decide +kernel)) d_Mo_stage_29 ?_
      exact W.lret (v := (-1000000000000000000 : Int64)) hx hb hr (fun t ht hW => ⟨⟨(-1000000000000000000 : Int64), (fi, fl, ai, al), rfl, ⟨rfl, rfl, hw⟩, by rw [ht]; exact hP, va_K.moved hW.alike hK, hD⟩, hS.F ht⟩) hS.2.2 d_Mo_stage_32
    · have hw := zw_ite_f c9 hw
      refine lv_iload_n hx hb d_Mo_stage_12 rfl (lv_at hl 1 rfl) ?_
      refine lv_aload_n hx hb d_Mo_stage_13 rfl (lv_at hl 0 rfl) ?_
      refine vp_callSi (va_Run.run (va_runV (As := []) (rest := [.int p0]) ⟨hx, hb, hml, hown, hts⟩ (c_Mo_lastDay l dC dI cI cJ cG cZ a fi fl ai al _ hw) (cwV 0 hts (zw_goodV kw_774 kw_776 kw_s19 kw_9 kw_777) rfl rfl rfl hd_Mo_lastDay ⟨Nat.le_of_ble_eq_true rfl, Nat.le_of_ble_eq_true rfl⟩) (zw_preV (ci := 7) (q0 := 0) hK hN hP rfl rfl) rfl rfl hl.1 rfl (lv_room (Nat.le_of_ble_eq_true rfl)) d_Mo_stage_14 ⟨Nat.le_of_ble_eq_true rfl, Nat.le_of_ble_eq_true rfl⟩)) (fun r14 hw => ?_)
      refine lv_icmp_le (tgt := 29) hx hb d_Mo_stage_17 (by decide) (fun c17 => ?_) (fun c17 => ?_)
      · have hw := zw_ite_t c17 hw
        refine lv_ldc2 (v := (-1000000000000000000 : Int64)) hx hb hown (hts (.constantLong R_Mo 148 (-1000000000000000000 : Int64)) (by decide +kernel)) d_Mo_stage_29 ?_
        exact W.lret (v := (-1000000000000000000 : Int64)) hx hb hr (fun t ht hW => ⟨⟨(-1000000000000000000 : Int64), (fi, fl, ai, al), rfl, ⟨rfl, rfl, hw⟩, by rw [ht]; exact hP, va_K.moved hW.alike hK, hD⟩, hS.F ht⟩) hS.2.2 d_Mo_stage_32
      · have hw := zw_ite_f c17 hw
        refine lv_aload_n hx hb d_Mo_stage_20 rfl (lv_at hl 0 rfl) ?_
        refine va_get (D := (dC, dI)) (ci := 7) (v := .int (fi 2)) (C := R_Mo) (T := T_Mo) (N := 36) hx hb ht in_Mo hown hK hP 0 rfl rfl 11 (by decide) (ht _ kw_624) (fun _ h9 => h9) rfl d_Mo_stage_21 ?_
        refine lv_bipush (v := (12 : Int32)) hx hb d_Mo_stage_24 (by decide) ?_
        refine lv_icmp_ne (tgt := 33) hx hb d_Mo_stage_26 (by decide) (fun c26 => ?_) (fun c26 => ?_)
        · have hw := zw_ite_f c26 hw
          refine lv_aload_n hx hb d_Mo_stage_33 rfl (lv_at hl 0 rfl) ?_
          refine va_get (D := (dC, dI)) (ci := 7) (v := .ref (a 9)) (C := R_Mo) (T := T_Mo) (N := 36) hx hb ht in_Mo hown hK hP 0 rfl rfl 10 (by decide) (ht _ kw_623) (fun _ h9 => h9) rfl d_Mo_stage_34 ?_
          refine lv_aload_n hx hb d_Mo_stage_37 rfl (lv_at hl 0 rfl) ?_
          refine va_get (D := (dC, dI)) (ci := 7) (v := .int (fi 2)) (C := R_Mo) (T := T_Mo) (N := 36) hx hb ht in_Mo hown hK hP 0 rfl rfl 11 (by decide) (ht _ kw_624) (fun _ h9 => h9) rfl d_Mo_stage_38 ?_
          refine lv_iload_n hx hb d_Mo_stage_41 rfl (lv_at hl 1 rfl) ?_
          obtain ⟨h42, hw⟩ := hw
          refine va_iast (f := ai 9) hx hb hK hP hD hS 9 0 rfl rfl h42 d_Mo_stage_42 (fun H locs hP hD hS => ?_)
          have hP := mwpai_9 hP
          have hD := mwdai_9 hD
          obtain ⟨ai_42, eai_42⟩ : ∃ z, z = va_up ai 9 (upd (ai 9) (fi 2).toNatClampNeg p0) := ⟨_, rfl⟩
          rw [← eai_42] at hP hD
          have hw := zw_nm_x eai_42 hw
          refine lv_aload_n hx hb d_Mo_stage_43 rfl (lv_at hl 0 rfl) ?_
          refine lv_dup hx hb d_Mo_stage_44 rfl ?_
          refine va_get (D := (dC, dI)) (ci := 7) (v := .int (fi 2)) (C := R_Mo) (T := T_Mo) (N := 36) hx hb ht in_Mo hown hK hP 0 rfl rfl 11 (by decide) (ht _ kw_624) (fun _ h9 => h9) rfl d_Mo_stage_45 ?_
          refine lv_iconst (v := (1 : Int32)) hx hb d_Mo_stage_48 (by decide) ?_
          refine lv_iadd hx hb d_Mo_stage_49 ?_
          refine va_put (D := (dC, dI)) (ci := 7) (v := .int ((fi 2) + (1 : Int32))) (ty := .int) (C := R_Mo) (T := T_Mo) (N := 36) hx hb ht in_Mo t_Mo t_Mo_ok n_Mo hown hK hP hD hS 0 rfl rfl 11 (by decide) (ht _ kw_624) (fun _ h9 => h9) rfl (by decide +kernel) rfl rfl (Nat.le_of_ble_eq_true rfl) d_Mo_stage_50 (fun H locs hP hD hS => ?_)
          have hP := mwpfi_2 hP
          have hD := mwdfi_2 hD
          obtain ⟨fi_50, efi_50⟩ : ∃ z, z = va_up fi 2 ((fi 2) + (1 : Int32)) := ⟨_, rfl⟩
          rw [← efi_50] at hP hD
          have hw := zw_nm_x efi_50 hw
          refine lv_aload_n hx hb d_Mo_stage_53 rfl (lv_at hl 0 rfl) ?_
          refine zw_cv (va_runV (As := []) (rest := []) ⟨hx, hb, hml, hown, hts⟩ (c_Mo_lookAtEnd l dC dI cI cJ cG cZ a H.size fi_50 fl ai_42 al _ hw) (cwV 0 hts (zw_goodV kw_779 kw_781 kw_s20 kw_9 kw_782) rfl rfl rfl hd_Mo_lookAtEnd ⟨Nat.le_of_ble_eq_true rfl, Nat.le_of_ble_eq_true rfl⟩) (zw_preVw (ci := 7) (q0 := 0) hK hN hP hD rfl rfl) rfl rfl hl.1 rfl (lv_room (Nat.le_of_ble_eq_true rfl)) d_Mo_stage_54 ⟨Nat.le_of_ble_eq_true rfl, Nat.le_of_ble_eq_true rfl⟩) hD hS hA (fun fi_54 fl_54 ai_54 al_54 H locs hw hP hD hS => ?_)
          obtain ⟨rfl, rfl, rfl, hw⟩ := hw
          refine lv_aload_n hx hb d_Mo_stage_57 rfl (lv_at hl 0 rfl) ?_
          refine va_get (D := (dC, dI)) (ci := 7) (v := .int (fi_54 2)) (C := R_Mo) (T := T_Mo) (N := 36) hx hb ht in_Mo hown hK hP 0 rfl rfl 11 (by decide) (ht _ kw_624) (fun _ h9 => h9) rfl d_Mo_stage_58 ?_
          refine lv_iconst (v := (1 : Int32)) hx hb d_Mo_stage_61 (by decide) ?_
          refine lv_isub hx hb d_Mo_stage_62 ?_
          refine lv_i2l hx hb d_Mo_stage_63 rfl ?_
          exact W.lret (v := ((fi_54 2) - (1 : Int32)).toInt64) hx hb hr (fun t ht hW => ⟨⟨((fi_54 2) - (1 : Int32)).toInt64, (fi_54, fl, ai_42, al), rfl, ⟨rfl, rfl, hw⟩, by rw [ht]; exact hP, va_K.moved hW.alike hK, hD⟩, hS.F ht⟩) hS.2.2 d_Mo_stage_64
        · have hw := zw_ite_t c26 hw
          refine lv_ldc2 (v := (-1000000000000000000 : Int64)) hx hb hown (hts (.constantLong R_Mo 148 (-1000000000000000000 : Int64)) (by decide +kernel)) d_Mo_stage_29 ?_
          exact W.lret (v := (-1000000000000000000 : Int64)) hx hb hr (fun t ht hW => ⟨⟨(-1000000000000000000 : Int64), (fi, fl, ai, al), rfl, ⟨rfl, rfl, hw⟩, by rw [ht]; exact hP, va_K.moved hW.alike hK, hD⟩, hS.F ht⟩) hS.2.2 d_Mo_stage_32
  rw [hH, hlo] at key
  exact key
def Mo_put_w (fi : Nat → Int32) (fl : Nat → Int64) (ai : Nat → Nat → Int32) (al : Nat → Nat → Int64) (p0 : Int32) (p1 : Int32) (p2 : Int32) (K : (Nat → Int32) → (Nat → Nat → Int32) → Prop) : Prop :=
  vp_in (fi 3) 40 ∧ (zw_nm (va_up ai 10 (upd (ai 10) (fi 3).toNatClampNeg p0)) (fun (ai_9 : Nat → Nat → Int32) =>
  vp_in (fi 3) 40 ∧ (zw_nm (va_up ai_9 11 (upd (ai_9 11) (fi 3).toNatClampNeg p1)) (fun (ai_19 : Nat → Nat → Int32) =>
  vp_in (fi 3) 40 ∧ (zw_nm (va_up ai_19 12 (upd (ai_19 12) (fi 3).toNatClampNeg p2)) (fun (ai_29 : Nat → Nat → Int32) =>
  vp_in (fi 3) 40 ∧ (zw_nm (va_up ai_29 13 (upd (ai_29 13) (fi 3).toNatClampNeg ((fi 2) - (1 : Int32)))) (fun (ai_44 : Nat → Nat → Int32) =>
  zw_nm (va_up fi 3 ((fi 3) + (1 : Int32))) (fun (fi_52 : Nat → Int32) =>
  K fi_52 ai_44)))))))))
theorem d_Mo_put_0 : decode b_Mo_put 0 = .ok (.aload_n 0, 1) := by decide +kernel
theorem d_Mo_put_1 : decode b_Mo_put 1 = .ok (.getfield 38, 3) := by decide +kernel
theorem d_Mo_put_4 : decode b_Mo_put 4 = .ok (.aload_n 0, 1) := by decide +kernel
theorem d_Mo_put_5 : decode b_Mo_put 5 = .ok (.getfield 133, 3) := by decide +kernel
theorem d_Mo_put_8 : decode b_Mo_put 8 = .ok (.iload_n 1, 1) := by decide +kernel
theorem d_Mo_put_9 : decode b_Mo_put 9 = .ok (.iastore, 1) := by decide +kernel
theorem d_Mo_put_10 : decode b_Mo_put 10 = .ok (.aload_n 0, 1) := by decide +kernel
theorem d_Mo_put_11 : decode b_Mo_put 11 = .ok (.getfield 41, 3) := by decide +kernel
theorem d_Mo_put_14 : decode b_Mo_put 14 = .ok (.aload_n 0, 1) := by decide +kernel
theorem d_Mo_put_15 : decode b_Mo_put 15 = .ok (.getfield 133, 3) := by decide +kernel
theorem d_Mo_put_18 : decode b_Mo_put 18 = .ok (.iload_n 2, 1) := by decide +kernel
theorem d_Mo_put_19 : decode b_Mo_put 19 = .ok (.iastore, 1) := by decide +kernel
theorem d_Mo_put_20 : decode b_Mo_put 20 = .ok (.aload_n 0, 1) := by decide +kernel
theorem d_Mo_put_21 : decode b_Mo_put 21 = .ok (.getfield 44, 3) := by decide +kernel
theorem d_Mo_put_24 : decode b_Mo_put 24 = .ok (.aload_n 0, 1) := by decide +kernel
theorem d_Mo_put_25 : decode b_Mo_put 25 = .ok (.getfield 133, 3) := by decide +kernel
theorem d_Mo_put_28 : decode b_Mo_put 28 = .ok (.iload_n 3, 1) := by decide +kernel
theorem d_Mo_put_29 : decode b_Mo_put 29 = .ok (.iastore, 1) := by decide +kernel
theorem d_Mo_put_30 : decode b_Mo_put 30 = .ok (.aload_n 0, 1) := by decide +kernel
theorem d_Mo_put_31 : decode b_Mo_put 31 = .ok (.getfield 47, 3) := by decide +kernel
theorem d_Mo_put_34 : decode b_Mo_put 34 = .ok (.aload_n 0, 1) := by decide +kernel
theorem d_Mo_put_35 : decode b_Mo_put 35 = .ok (.getfield 133, 3) := by decide +kernel
theorem d_Mo_put_38 : decode b_Mo_put 38 = .ok (.aload_n 0, 1) := by decide +kernel
theorem d_Mo_put_39 : decode b_Mo_put 39 = .ok (.getfield 107, 3) := by decide +kernel
theorem d_Mo_put_42 : decode b_Mo_put 42 = .ok (.iconst 1, 1) := by decide +kernel
theorem d_Mo_put_43 : decode b_Mo_put 43 = .ok (.isub, 1) := by decide +kernel
theorem d_Mo_put_44 : decode b_Mo_put 44 = .ok (.iastore, 1) := by decide +kernel
theorem d_Mo_put_45 : decode b_Mo_put 45 = .ok (.aload_n 0, 1) := by decide +kernel
theorem d_Mo_put_46 : decode b_Mo_put 46 = .ok (.dup, 1) := by decide +kernel
theorem d_Mo_put_47 : decode b_Mo_put 47 = .ok (.getfield 133, 3) := by decide +kernel
theorem d_Mo_put_50 : decode b_Mo_put 50 = .ok (.iconst 1, 1) := by decide +kernel
theorem d_Mo_put_51 : decode b_Mo_put 51 = .ok (.iadd, 1) := by decide +kernel
theorem d_Mo_put_52 : decode b_Mo_put 52 = .ok (.putfield 133, 3) := by decide +kernel
theorem d_Mo_put_55 : decode b_Mo_put 55 = .ok (.return_, 1) := by decide +kernel
set_option maxHeartbeats 4000000 in
set_option maxRecDepth 100000 in
theorem c_Mo_put (l : Launch) (dC : Nat → ClassId) (dI : Nat → Nat → Nat) (cI cJ cG cZ : ClassId) (a : Nat → Nat) (sz : Nat) (fi : Nat → Int32) (fl : Nat → Int64) (ai : Nat → Nat → Int32) (al : Nat → Nat → Int64) (p0 : Int32) (p1 : Int32) (p2 : Int32) (K : (Nat → Int32) → (Nat → Nat → Int32) → Prop) (hw : Mo_put_w fi fl ai al p0 p1 p2 K) : Met l y_Mo_put ws_Mo_put ({ frames := 0, cells := 0, slots := 0, locals := 0 }) (va_Pc [.ref (a 0), .int p0, .int p1, .int p2] (zw_Bw (dC, dI) vwCl [(cI, .int), (cJ, .long), (cG, .array .int), (cZ, .boolean)] (mw cI cJ cG cZ a fi fl ai al) sz)) (va_Qv (fun (u : zw_Z) => (zw_k_fi_aiv fl al K) u.1 u.2.1 u.2.2.1 u.2.2.2) (fun u t => zw_E (dC, dI) vwCl [(cI, .int), (cJ, .long), (cG, .array .int), (cZ, .boolean)] (va_A (mw cI cJ cG cZ a fi fl ai al) sz) (mw cI cJ cG cZ a u.1 u.2.1 u.2.2.1 u.2.2.2) t) (va_A (mw cI cJ cG cZ a fi fl ai al) sz)) 0 0 (va_A (mw cI cJ cG cZ a fi fl ai al) sz) := by
  refine Met.ofW (cc := b_Mo_put) (maxL := 4) (ret := (Option.none : Option FieldType)) (by decide) rfl ?_
  intro p e s m args below meth c s₁ B hml hv
  obtain ⟨rfl, hsz, hP, hK, hD0, hN⟩ := hv
  have hx := B.exec
  have hb := B.bytes
  have hr := B.returns
  have hts := atoms_spec (ws := ws_Mo_put) B.pre
  have ht : ∀ w ∈ zw_tbl, w.before _ s = true := fun w h => hts w (List.mem_cons_of_mem _ h)
  have hown : s.vm.findClass R_Mo = some m.cls := findClass_of_methodNamed B.named
  have hlocks := B.notSynchronized
  subst hsz
  have hD := hD0.self (sz := s.heap.size)
  generalize hAe : va_A (mw cI cJ cG cZ a fi fl ai al) s.heap.size = A at hD ⊢
  have hA : ∀ q : Nat, s.heap.size ≤ q → A q := fun q h => by rw [← hAe]; exact Or.inr h
  have hS : va_S A s.heap s.heap [] := va_S.rf
  have hl := lv_entry ([.ref (a 0), .int p0, .int p1, .int p2] : List Value) (n := 4) (Nat.le_of_ble_eq_true rfl)
  rw [lg_entry_eq]
  generalize (lg_sl ([.ref (a 0), .int p0, .int p1, .int p2] : List Value) ++ List.replicate (4 - (lg_sl ([.ref (a 0), .int p0, .int p1, .int p2] : List Value)).length) Slot.unset).toArray = ls at hl ⊢
  have hl : lv_has ls 4 [(0, .ref (a 0)), (1, .int p0), (2, .int p1), (3, .int p2)] := hl
  unfold Mo_put_w at hw
  obtain ⟨H, hH⟩ : ∃ H, H = s.heap := ⟨_, rfl⟩
  obtain ⟨locs, hlo⟩ : ∃ q : List Loc, q = [] := ⟨_, rfl⟩
  have hP : va_P (dC, dI) vwCl (mw cI cJ cG cZ a fi fl ai al) H := by rw [hH]; exact hP
  have hS : va_S A s.heap H locs := by rw [hH, hlo]; exact hS
  have key : W p l e (headSpec ws_Mo_put ({ frames := 0, cells := 0, slots := 0, locals := 0 })).room s m ([.ref (a 0), .int p0, .int p1, .int p2] : List Value).toArray below meth c H locs 0 0 (MQ below (va_Qv (fun (u : zw_Z) => (zw_k_fi_aiv fl al K) u.1 u.2.1 u.2.2.1 u.2.2.2) (fun u t => zw_E (dC, dI) vwCl [(cI, .int), (cJ, .long), (cG, .array .int), (cZ, .boolean)] A (mw cI cJ cG cZ a u.1 u.2.1 u.2.2.1 u.2.2.2) t) A) ([.ref (a 0), .int p0, .int p1, .int p2] : List Value).toArray s 0 0 A) (F0 m 0 ls []) := by
    refine lv_aload_n hx hb d_Mo_put_0 rfl (lv_at hl 0 rfl) ?_
    refine va_get (D := (dC, dI)) (ci := 7) (v := .ref (a 10)) (C := R_Mo) (T := T_Mo) (N := 36) hx hb ht in_Mo hown hK hP 0 rfl rfl 12 (by decide) (ht _ kw_625) (fun _ h9 => h9) rfl d_Mo_put_1 ?_
    refine lv_aload_n hx hb d_Mo_put_4 rfl (lv_at hl 0 rfl) ?_
    refine va_get (D := (dC, dI)) (ci := 7) (v := .int (fi 3)) (C := R_Mo) (T := T_Mo) (N := 36) hx hb ht in_Mo hown hK hP 0 rfl rfl 16 (by decide) (ht _ kw_629) (fun _ h9 => h9) rfl d_Mo_put_5 ?_
    refine lv_iload_n hx hb d_Mo_put_8 rfl (lv_at hl 1 rfl) ?_
    obtain ⟨h9, hw⟩ := hw
    refine va_iast (f := ai 10) hx hb hK hP hD hS 10 0 rfl rfl h9 d_Mo_put_9 (fun H locs hP hD hS => ?_)
    have hP := mwpai_10 hP
    have hD := mwdai_10 hD
    obtain ⟨ai_9, eai_9⟩ : ∃ z, z = va_up ai 10 (upd (ai 10) (fi 3).toNatClampNeg p0) := ⟨_, rfl⟩
    rw [← eai_9] at hP hD
    have hw := zw_nm_x eai_9 hw
    refine lv_aload_n hx hb d_Mo_put_10 rfl (lv_at hl 0 rfl) ?_
    refine va_get (D := (dC, dI)) (ci := 7) (v := .ref (a 11)) (C := R_Mo) (T := T_Mo) (N := 36) hx hb ht in_Mo hown hK hP 0 rfl rfl 13 (by decide) (ht _ kw_626) (fun _ h9 => h9) rfl d_Mo_put_11 ?_
    refine lv_aload_n hx hb d_Mo_put_14 rfl (lv_at hl 0 rfl) ?_
    refine va_get (D := (dC, dI)) (ci := 7) (v := .int (fi 3)) (C := R_Mo) (T := T_Mo) (N := 36) hx hb ht in_Mo hown hK hP 0 rfl rfl 16 (by decide) (ht _ kw_629) (fun _ h9 => h9) rfl d_Mo_put_15 ?_
    refine lv_iload_n hx hb d_Mo_put_18 rfl (lv_at hl 2 rfl) ?_
    obtain ⟨h19, hw⟩ := hw
    refine va_iast (f := ai_9 11) hx hb hK hP hD hS 11 0 rfl rfl h19 d_Mo_put_19 (fun H locs hP hD hS => ?_)
    have hP := mwpai_11 hP
    have hD := mwdai_11 hD
    obtain ⟨ai_19, eai_19⟩ : ∃ z, z = va_up ai_9 11 (upd (ai_9 11) (fi 3).toNatClampNeg p1) := ⟨_, rfl⟩
    rw [← eai_19] at hP hD
    have hw := zw_nm_x eai_19 hw
    refine lv_aload_n hx hb d_Mo_put_20 rfl (lv_at hl 0 rfl) ?_
    refine va_get (D := (dC, dI)) (ci := 7) (v := .ref (a 12)) (C := R_Mo) (T := T_Mo) (N := 36) hx hb ht in_Mo hown hK hP 0 rfl rfl 14 (by decide) (ht _ kw_627) (fun _ h9 => h9) rfl d_Mo_put_21 ?_
    refine lv_aload_n hx hb d_Mo_put_24 rfl (lv_at hl 0 rfl) ?_
    refine va_get (D := (dC, dI)) (ci := 7) (v := .int (fi 3)) (C := R_Mo) (T := T_Mo) (N := 36) hx hb ht in_Mo hown hK hP 0 rfl rfl 16 (by decide) (ht _ kw_629) (fun _ h9 => h9) rfl d_Mo_put_25 ?_
    refine lv_iload_n hx hb d_Mo_put_28 rfl (lv_at hl 3 rfl) ?_
    obtain ⟨h29, hw⟩ := hw
    refine va_iast (f := ai_19 12) hx hb hK hP hD hS 12 0 rfl rfl h29 d_Mo_put_29 (fun H locs hP hD hS => ?_)
    have hP := mwpai_12 hP
    have hD := mwdai_12 hD
    obtain ⟨ai_29, eai_29⟩ : ∃ z, z = va_up ai_19 12 (upd (ai_19 12) (fi 3).toNatClampNeg p2) := ⟨_, rfl⟩
    rw [← eai_29] at hP hD
    have hw := zw_nm_x eai_29 hw
    refine lv_aload_n hx hb d_Mo_put_30 rfl (lv_at hl 0 rfl) ?_
    refine va_get (D := (dC, dI)) (ci := 7) (v := .ref (a 13)) (C := R_Mo) (T := T_Mo) (N := 36) hx hb ht in_Mo hown hK hP 0 rfl rfl 15 (by decide) (ht _ kw_628) (fun _ h9 => h9) rfl d_Mo_put_31 ?_
    refine lv_aload_n hx hb d_Mo_put_34 rfl (lv_at hl 0 rfl) ?_
    refine va_get (D := (dC, dI)) (ci := 7) (v := .int (fi 3)) (C := R_Mo) (T := T_Mo) (N := 36) hx hb ht in_Mo hown hK hP 0 rfl rfl 16 (by decide) (ht _ kw_629) (fun _ h9 => h9) rfl d_Mo_put_35 ?_
    refine lv_aload_n hx hb d_Mo_put_38 rfl (lv_at hl 0 rfl) ?_
    refine va_get (D := (dC, dI)) (ci := 7) (v := .int (fi 2)) (C := R_Mo) (T := T_Mo) (N := 36) hx hb ht in_Mo hown hK hP 0 rfl rfl 11 (by decide) (ht _ kw_624) (fun _ h9 => h9) rfl d_Mo_put_39 ?_
    refine lv_iconst (v := (1 : Int32)) hx hb d_Mo_put_42 (by decide) ?_
    refine lv_isub hx hb d_Mo_put_43 ?_
    obtain ⟨h44, hw⟩ := hw
    refine va_iast (f := ai_29 13) hx hb hK hP hD hS 13 0 rfl rfl h44 d_Mo_put_44 (fun H locs hP hD hS => ?_)
    have hP := mwpai_13 hP
    have hD := mwdai_13 hD
    obtain ⟨ai_44, eai_44⟩ : ∃ z, z = va_up ai_29 13 (upd (ai_29 13) (fi 3).toNatClampNeg ((fi 2) - (1 : Int32))) := ⟨_, rfl⟩
    rw [← eai_44] at hP hD
    have hw := zw_nm_x eai_44 hw
    refine lv_aload_n hx hb d_Mo_put_45 rfl (lv_at hl 0 rfl) ?_
    refine lv_dup hx hb d_Mo_put_46 rfl ?_
    refine va_get (D := (dC, dI)) (ci := 7) (v := .int (fi 3)) (C := R_Mo) (T := T_Mo) (N := 36) hx hb ht in_Mo hown hK hP 0 rfl rfl 16 (by decide) (ht _ kw_629) (fun _ h9 => h9) rfl d_Mo_put_47 ?_
    refine lv_iconst (v := (1 : Int32)) hx hb d_Mo_put_50 (by decide) ?_
    refine lv_iadd hx hb d_Mo_put_51 ?_
    refine va_put (D := (dC, dI)) (ci := 7) (v := .int ((fi 3) + (1 : Int32))) (ty := .int) (C := R_Mo) (T := T_Mo) (N := 36) hx hb ht in_Mo t_Mo t_Mo_ok n_Mo hown hK hP hD hS 0 rfl rfl 16 (by decide) (ht _ kw_629) (fun _ h9 => h9) rfl (by decide +kernel) rfl rfl (Nat.le_of_ble_eq_true rfl) d_Mo_put_52 (fun H locs hP hD hS => ?_)
    have hP := mwpfi_3 hP
    have hD := mwdfi_3 hD
    obtain ⟨fi_52, efi_52⟩ : ∃ z, z = va_up fi 3 ((fi 3) + (1 : Int32)) := ⟨_, rfl⟩
    rw [← efi_52] at hP hD
    have hw := zw_nm_x efi_52 hw
    exact W.vret hx hb hr (fun t ht hW => ⟨⟨(fi_52, fl, ai_44, al), rfl, ⟨rfl, rfl, hw⟩, by rw [ht]; exact hP, va_K.moved hW.alike hK, hD⟩, hS.F ht⟩) hS.2.2 d_Mo_put_55
  rw [hH, hlo] at key
  exact key
def Mo_mayPut_w (fi : Nat → Int32) (fl : Nat → Int64) (ai : Nat → Nat → Int32) (al : Nat → Nat → Int64) (K : Int32 → Prop) : Prop :=
  if (fi 2) ≤ 0 then (
    K (0 : Int32))
  else (
    if (40 : Int32) ≤ (fi 3) then (
      K (0 : Int32))
    else (
      K (1 : Int32)))
theorem d_Mo_mayPut_0 : decode b_Mo_mayPut 0 = .ok (.aload_n 0, 1) := by decide +kernel
theorem d_Mo_mayPut_1 : decode b_Mo_mayPut 1 = .ok (.getfield 107, 3) := by decide +kernel
theorem d_Mo_mayPut_4 : decode b_Mo_mayPut 4 = .ok (.ifCond .le (16), 3) := by decide +kernel
theorem d_Mo_mayPut_7 : decode b_Mo_mayPut 7 = .ok (.aload_n 0, 1) := by decide +kernel
theorem d_Mo_mayPut_8 : decode b_Mo_mayPut 8 = .ok (.getfield 133, 3) := by decide +kernel
theorem d_Mo_mayPut_11 : decode b_Mo_mayPut 11 = .ok (.bipush (40), 2) := by decide +kernel
theorem d_Mo_mayPut_13 : decode b_Mo_mayPut 13 = .ok (.if_icmp .ge (7), 3) := by decide +kernel
theorem d_Mo_mayPut_16 : decode b_Mo_mayPut 16 = .ok (.iconst 1, 1) := by decide +kernel
theorem d_Mo_mayPut_17 : decode b_Mo_mayPut 17 = .ok (.goto (4), 3) := by decide +kernel
theorem d_Mo_mayPut_20 : decode b_Mo_mayPut 20 = .ok (.iconst 0, 1) := by decide +kernel
theorem d_Mo_mayPut_21 : decode b_Mo_mayPut 21 = .ok (.ireturn, 1) := by decide +kernel
set_option maxHeartbeats 4000000 in
set_option maxRecDepth 100000 in
theorem c_Mo_mayPut (l : Launch) (dC : Nat → ClassId) (dI : Nat → Nat → Nat) (cI cJ cG cZ : ClassId) (a : Nat → Nat) (fi : Nat → Int32) (fl : Nat → Int64) (ai : Nat → Nat → Int32) (al : Nat → Nat → Int64) (K : Int32 → Prop) (hw : Mo_mayPut_w fi fl ai al K) : Met l y_Mo_mayPut ws_Mo_mayPut ({ frames := 0, cells := 0, slots := 0, locals := 0 }) (va_Pc [.ref (a 0)] (zw_B (dC, dI) vwCl [(cI, .int), (cJ, .long), (cG, .array .int), (cZ, .boolean)] (mw cI cJ cG cZ a fi fl ai al))) (vp_Si K) 0 0 (fun _ => False) := by
  refine Met.ofW (cc := b_Mo_mayPut) (maxL := 1) (ret := (Option.some FieldType.boolean)) (by decide) rfl ?_
  intro p e s m args below meth c s₁ B hml hv
  obtain ⟨rfl, hP, hK, hN⟩ := hv
  have hx := B.exec
  have hb := B.bytes
  have hr := B.returns
  have hts := atoms_spec (ws := ws_Mo_mayPut) B.pre
  have ht : ∀ w ∈ zw_tbl, w.before _ s = true := fun w h => hts w (List.mem_cons_of_mem _ h)
  have hown : s.vm.findClass R_Mo = some m.cls := findClass_of_methodNamed B.named
  have hlocks := B.notSynchronized
  have hl := lv_entry ([.ref (a 0)] : List Value) (n := 1) (Nat.le_of_ble_eq_true rfl)
  rw [lg_entry_eq]
  generalize (lg_sl ([.ref (a 0)] : List Value) ++ List.replicate (1 - (lg_sl ([.ref (a 0)] : List Value)).length) Slot.unset).toArray = ls at hl ⊢
  have hl : lv_has ls 1 [(0, .ref (a 0))] := hl
  unfold Mo_mayPut_w at hw
  refine lv_aload_n hx hb d_Mo_mayPut_0 rfl (lv_at hl 0 rfl) ?_
  refine va_get (D := (dC, dI)) (ci := 7) (v := .int (fi 2)) (C := R_Mo) (T := T_Mo) (N := 36) hx hb ht in_Mo hown hK hP 0 rfl rfl 11 (by decide) (ht _ kw_624) (fun _ h9 => h9) rfl d_Mo_mayPut_1 ?_
  refine lv_if_le (tgt := 20) hx hb d_Mo_mayPut_4 (by decide) (fun c4 => ?_) (fun c4 => ?_)
  · have hw := zw_ite_t c4 hw
    refine lv_iconst (v := (0 : Int32)) hx hb d_Mo_mayPut_20 (by decide) ?_
    exact W.zret (v := (0 : Int32)) (ty := .boolean) hx hb hr rfl (fun t ht hW => ⟨(0 : Int32), rfl, hw, ht⟩) t_nil d_Mo_mayPut_21
  · have hw := zw_ite_f c4 hw
    refine lv_aload_n hx hb d_Mo_mayPut_7 rfl (lv_at hl 0 rfl) ?_
    refine va_get (D := (dC, dI)) (ci := 7) (v := .int (fi 3)) (C := R_Mo) (T := T_Mo) (N := 36) hx hb ht in_Mo hown hK hP 0 rfl rfl 16 (by decide) (ht _ kw_629) (fun _ h9 => h9) rfl d_Mo_mayPut_8 ?_
    refine lv_bipush (v := (40 : Int32)) hx hb d_Mo_mayPut_11 (by decide) ?_
    refine lv_icmp_ge (tgt := 20) hx hb d_Mo_mayPut_13 (by decide) (fun c13 => ?_) (fun c13 => ?_)
    · have hw := zw_ite_t c13 hw
      refine lv_iconst (v := (0 : Int32)) hx hb d_Mo_mayPut_20 (by decide) ?_
      exact W.zret (v := (0 : Int32)) (ty := .boolean) hx hb hr rfl (fun t ht hW => ⟨(0 : Int32), rfl, hw, ht⟩) t_nil d_Mo_mayPut_21
    · have hw := zw_ite_f c13 hw
      refine lv_iconst (v := (1 : Int32)) hx hb d_Mo_mayPut_16 (by decide) ?_
      refine lv_goto (tgt := 21) hx hb d_Mo_mayPut_17 (by decide) ?_
      exact W.zret (v := (1 : Int32)) (ty := .boolean) hx hb hr rfl (fun t ht hW => ⟨(1 : Int32), rfl, hw, ht⟩) t_nil d_Mo_mayPut_21
def Mo_add_w (fi : Nat → Int32) (fl : Nat → Int64) (ai : Nat → Nat → Int32) (al : Nat → Nat → Int64) (p0 : Int32) (K : Int32 → (Nat → Int32) → (Nat → Nat → Int32) → Prop) : Prop :=
  Mo_mayPut_w fi fl ai al  (fun (r1 : Int32) =>
  if r1 = 0 then (
    K (0 : Int32) fi ai)
  else (
    Mo_isPart_w fi fl ai al p0 (fun (r9 : Int32) =>
    if r9 = 0 then (
      K (0 : Int32) fi ai)
    else (
      Mo_actOf_w fi fl ai al p0 (fun (r17 : Int32) =>
      if r17 < 0 then (
        zw_nm (0 : Int32) (fun (v26 : Int32) =>
        zw_lp1 (fun L27 (x27_2 : Int32) =>
        if (fi 0) ≤ x27_2 then (
          Mo_put_w fi fl ai al (0 : Int32) p0 (0 : Int32) (fun (fi_69 : Nat → Int32) (ai_69 : Nat → Nat → Int32) =>
          K (1 : Int32) fi_69 ai_69))
        else (
          vp_in (((6 : Int32) * x27_2) + p0) 36 ∧ (
          zw_jn0 (
          zw_nm (x27_2 + (1 : Int32)) (fun (v59 : Int32) =>
          L27 v59)) (fun J59 =>
          if (ai 8 (((6 : Int32) * x27_2) + p0).toNatClampNeg) = 0 then (
            J59)
          else (
            Mo_actOf_w fi fl ai al x27_2 (fun (r51 : Int32) =>
            if 0 ≤ r51 then (
              J59)
            else (
              K (0 : Int32) fi ai))))))) v26))
      else (
        K (0 : Int32) fi ai))))))
theorem d_Mo_add_0 : decode b_Mo_add 0 = .ok (.aload_n 0, 1) := by decide +kernel
theorem d_Mo_add_1 : decode b_Mo_add 1 = .ok (.invokevirtual 153, 3) := by decide +kernel
theorem d_Mo_add_4 : decode b_Mo_add 4 = .ok (.ifCond .eq (19), 3) := by decide +kernel
theorem d_Mo_add_7 : decode b_Mo_add 7 = .ok (.aload_n 0, 1) := by decide +kernel
theorem d_Mo_add_8 : decode b_Mo_add 8 = .ok (.iload_n 1, 1) := by decide +kernel
theorem d_Mo_add_9 : decode b_Mo_add 9 = .ok (.invokevirtual 110, 3) := by decide +kernel
theorem d_Mo_add_12 : decode b_Mo_add 12 = .ok (.ifCond .eq (11), 3) := by decide +kernel
theorem d_Mo_add_15 : decode b_Mo_add 15 = .ok (.aload_n 0, 1) := by decide +kernel
theorem d_Mo_add_16 : decode b_Mo_add 16 = .ok (.iload_n 1, 1) := by decide +kernel
theorem d_Mo_add_17 : decode b_Mo_add 17 = .ok (.invokevirtual 140, 3) := by decide +kernel
theorem d_Mo_add_20 : decode b_Mo_add 20 = .ok (.ifCond .lt (5), 3) := by decide +kernel
theorem d_Mo_add_23 : decode b_Mo_add 23 = .ok (.iconst 0, 1) := by decide +kernel
theorem d_Mo_add_24 : decode b_Mo_add 24 = .ok (.ireturn, 1) := by decide +kernel
theorem d_Mo_add_25 : decode b_Mo_add 25 = .ok (.iconst 0, 1) := by decide +kernel
theorem d_Mo_add_26 : decode b_Mo_add 26 = .ok (.istore_n 2, 1) := by decide +kernel
theorem d_Mo_add_27 : decode b_Mo_add 27 = .ok (.iload_n 2, 1) := by decide +kernel
theorem d_Mo_add_28 : decode b_Mo_add 28 = .ok (.aload_n 0, 1) := by decide +kernel
theorem d_Mo_add_29 : decode b_Mo_add 29 = .ok (.getfield 100, 3) := by decide +kernel
theorem d_Mo_add_32 : decode b_Mo_add 32 = .ok (.if_icmp .ge (33), 3) := by decide +kernel
theorem d_Mo_add_35 : decode b_Mo_add 35 = .ok (.aload_n 0, 1) := by decide +kernel
theorem d_Mo_add_36 : decode b_Mo_add 36 = .ok (.getfield 31, 3) := by decide +kernel
theorem d_Mo_add_39 : decode b_Mo_add 39 = .ok (.bipush (6), 2) := by decide +kernel
theorem d_Mo_add_41 : decode b_Mo_add 41 = .ok (.iload_n 2, 1) := by decide +kernel
theorem d_Mo_add_42 : decode b_Mo_add 42 = .ok (.imul, 1) := by decide +kernel
theorem d_Mo_add_43 : decode b_Mo_add 43 = .ok (.iload_n 1, 1) := by decide +kernel
theorem d_Mo_add_44 : decode b_Mo_add 44 = .ok (.iadd, 1) := by decide +kernel
theorem d_Mo_add_45 : decode b_Mo_add 45 = .ok (.baload, 1) := by decide +kernel
theorem d_Mo_add_46 : decode b_Mo_add 46 = .ok (.ifCond .eq (13), 3) := by decide +kernel
theorem d_Mo_add_49 : decode b_Mo_add 49 = .ok (.aload_n 0, 1) := by decide +kernel
theorem d_Mo_add_50 : decode b_Mo_add 50 = .ok (.iload_n 2, 1) := by decide +kernel
theorem d_Mo_add_51 : decode b_Mo_add 51 = .ok (.invokevirtual 140, 3) := by decide +kernel
theorem d_Mo_add_54 : decode b_Mo_add 54 = .ok (.ifCond .ge (5), 3) := by decide +kernel
theorem d_Mo_add_57 : decode b_Mo_add 57 = .ok (.iconst 0, 1) := by decide +kernel
theorem d_Mo_add_58 : decode b_Mo_add 58 = .ok (.ireturn, 1) := by decide +kernel
theorem d_Mo_add_59 : decode b_Mo_add 59 = .ok (.iinc 2 (1), 3) := by decide +kernel
theorem d_Mo_add_62 : decode b_Mo_add 62 = .ok (.goto (-35), 3) := by decide +kernel
theorem d_Mo_add_65 : decode b_Mo_add 65 = .ok (.aload_n 0, 1) := by decide +kernel
theorem d_Mo_add_66 : decode b_Mo_add 66 = .ok (.iconst 0, 1) := by decide +kernel
theorem d_Mo_add_67 : decode b_Mo_add 67 = .ok (.iload_n 1, 1) := by decide +kernel
theorem d_Mo_add_68 : decode b_Mo_add 68 = .ok (.iconst 0, 1) := by decide +kernel
theorem d_Mo_add_69 : decode b_Mo_add 69 = .ok (.invokevirtual 157, 3) := by decide +kernel
theorem d_Mo_add_72 : decode b_Mo_add 72 = .ok (.iconst 1, 1) := by decide +kernel
theorem d_Mo_add_73 : decode b_Mo_add 73 = .ok (.ireturn, 1) := by decide +kernel
set_option maxHeartbeats 4000000 in
set_option maxRecDepth 100000 in
theorem c_Mo_add (l : Launch) (dC : Nat → ClassId) (dI : Nat → Nat → Nat) (cI cJ cG cZ : ClassId) (a : Nat → Nat) (sz : Nat) (fi : Nat → Int32) (fl : Nat → Int64) (ai : Nat → Nat → Int32) (al : Nat → Nat → Int64) (p0 : Int32) (K : Int32 → (Nat → Int32) → (Nat → Nat → Int32) → Prop) (hw : Mo_add_w fi fl ai al p0 K) : Met l y_Mo_add ws_Mo_add ({ frames := 2, cells := 0, slots := 0, locals := 46 }) (va_Pc [.ref (a 0), .int p0] (zw_Bw (dC, dI) vwCl [(cI, .int), (cJ, .long), (cG, .array .int), (cZ, .boolean)] (mw cI cJ cG cZ a fi fl ai al) sz)) (va_Qi (fun r (u : zw_Z) => (zw_k_fi_air fl al K) r u.1 u.2.1 u.2.2.1 u.2.2.2) (fun u t => zw_E (dC, dI) vwCl [(cI, .int), (cJ, .long), (cG, .array .int), (cZ, .boolean)] (va_A (mw cI cJ cG cZ a fi fl ai al) sz) (mw cI cJ cG cZ a u.1 u.2.1 u.2.2.1 u.2.2.2) t) (va_A (mw cI cJ cG cZ a fi fl ai al) sz)) 0 0 (va_A (mw cI cJ cG cZ a fi fl ai al) sz) := by
  refine Met.ofW (cc := b_Mo_add) (maxL := 3) (ret := (Option.some FieldType.boolean)) (by decide) rfl ?_
  intro p e s m args below meth c s₁ B hml hv
  obtain ⟨rfl, hsz, hP, hK, hD0, hN⟩ := hv
  have hx := B.exec
  have hb := B.bytes
  have hr := B.returns
  have hts := atoms_spec (ws := ws_Mo_add) B.pre
  have ht : ∀ w ∈ zw_tbl, w.before _ s = true := fun w h => hts w (List.mem_cons_of_mem _ h)
  have hown : s.vm.findClass R_Mo = some m.cls := findClass_of_methodNamed B.named
  have hlocks := B.notSynchronized
  subst hsz
  have hD := hD0.self (sz := s.heap.size)
  generalize hAe : va_A (mw cI cJ cG cZ a fi fl ai al) s.heap.size = A at hD ⊢
  have hA : ∀ q : Nat, s.heap.size ≤ q → A q := fun q h => by rw [← hAe]; exact Or.inr h
  have hS : va_S A s.heap s.heap [] := va_S.rf
  have hl := lv_entry ([.ref (a 0), .int p0] : List Value) (n := 3) (Nat.le_of_ble_eq_true rfl)
  rw [lg_entry_eq]
  generalize (lg_sl ([.ref (a 0), .int p0] : List Value) ++ List.replicate (3 - (lg_sl ([.ref (a 0), .int p0] : List Value)).length) Slot.unset).toArray = ls at hl ⊢
  have hl : lv_has ls 3 [(0, .ref (a 0)), (1, .int p0)] := hl
  unfold Mo_add_w at hw
  obtain ⟨H, hH⟩ : ∃ H, H = s.heap := ⟨_, rfl⟩
  obtain ⟨locs, hlo⟩ : ∃ q : List Loc, q = [] := ⟨_, rfl⟩
  have hP : va_P (dC, dI) vwCl (mw cI cJ cG cZ a fi fl ai al) H := by rw [hH]; exact hP
  have hS : va_S A s.heap H locs := by rw [hH, hlo]; exact hS
  have key : W p l e (headSpec ws_Mo_add ({ frames := 2, cells := 0, slots := 0, locals := 46 })).room s m ([.ref (a 0), .int p0] : List Value).toArray below meth c H locs 0 0 (MQ below (va_Qi (fun r (u : zw_Z) => (zw_k_fi_air fl al K) r u.1 u.2.1 u.2.2.1 u.2.2.2) (fun u t => zw_E (dC, dI) vwCl [(cI, .int), (cJ, .long), (cG, .array .int), (cZ, .boolean)] A (mw cI cJ cG cZ a u.1 u.2.1 u.2.2.1 u.2.2.2) t) A) ([.ref (a 0), .int p0] : List Value).toArray s 0 0 A) (F0 m 0 ls []) := by
    refine lv_aload_n hx hb d_Mo_add_0 rfl (lv_at hl 0 rfl) ?_
    refine vp_callSi (va_Run.run (va_runV (As := []) (rest := []) ⟨hx, hb, hml, hown, hts⟩ (c_Mo_mayPut l dC dI cI cJ cG cZ a fi fl ai al _ hw) (cwV 0 hts (zw_goodV kw_787 kw_789 kw_s21 kw_9 kw_790) rfl rfl rfl hd_Mo_mayPut ⟨Nat.le_of_ble_eq_true rfl, Nat.le_of_ble_eq_true rfl⟩) (zw_preV (ci := 7) (q0 := 0) hK hN hP rfl rfl) rfl rfl hl.1 rfl (lv_room (Nat.le_of_ble_eq_true rfl)) d_Mo_add_1 ⟨Nat.le_of_ble_eq_true rfl, Nat.le_of_ble_eq_true rfl⟩)) (fun r1 hw => ?_)
    refine lv_if_eq (tgt := 23) hx hb d_Mo_add_4 (by decide) (fun c4 => ?_) (fun c4 => ?_)
    · have hw := zw_ite_t c4 hw
      refine lv_iconst (v := (0 : Int32)) hx hb d_Mo_add_23 (by decide) ?_
      exact W.zret (v := (0 : Int32)) (ty := .boolean) hx hb hr rfl (fun t ht hW => ⟨⟨(0 : Int32), (fi, fl, ai, al), rfl, ⟨rfl, rfl, hw⟩, by rw [ht]; exact hP, va_K.moved hW.alike hK, hD⟩, hS.F ht⟩) hS.2.2 d_Mo_add_24
    · have hw := zw_ite_f c4 hw
      refine lv_aload_n hx hb d_Mo_add_7 rfl (lv_at hl 0 rfl) ?_
      refine lv_iload_n hx hb d_Mo_add_8 rfl (lv_at hl 1 rfl) ?_
      refine vp_callSi (va_Run.run (va_runV (As := [.int p0]) (rest := []) ⟨hx, hb, hml, hown, hts⟩ (c_Mo_isPart l dC dI cI cJ cG cZ a fi fl ai al p0 _ hw) (cwV 1 hts (zw_goodV kw_727 kw_729 kw_s16 kw_9 kw_730) rfl rfl rfl hd_Mo_isPart ⟨Nat.le_of_ble_eq_true rfl, Nat.le_of_ble_eq_true rfl⟩) (zw_preV (ci := 7) (q0 := 0) hK hN hP rfl rfl) rfl rfl hl.1 rfl (lv_room (Nat.le_of_ble_eq_true rfl)) d_Mo_add_9 ⟨Nat.le_of_ble_eq_true rfl, Nat.le_of_ble_eq_true rfl⟩)) (fun r9 hw => ?_)
      refine lv_if_eq (tgt := 23) hx hb d_Mo_add_12 (by decide) (fun c12 => ?_) (fun c12 => ?_)
      · have hw := zw_ite_t c12 hw
        refine lv_iconst (v := (0 : Int32)) hx hb d_Mo_add_23 (by decide) ?_
        exact W.zret (v := (0 : Int32)) (ty := .boolean) hx hb hr rfl (fun t ht hW => ⟨⟨(0 : Int32), (fi, fl, ai, al), rfl, ⟨rfl, rfl, hw⟩, by rw [ht]; exact hP, va_K.moved hW.alike hK, hD⟩, hS.F ht⟩) hS.2.2 d_Mo_add_24
      · have hw := zw_ite_f c12 hw
        refine lv_aload_n hx hb d_Mo_add_15 rfl (lv_at hl 0 rfl) ?_
        refine lv_iload_n hx hb d_Mo_add_16 rfl (lv_at hl 1 rfl) ?_
        refine vp_callSi (va_Run.run (va_runV (As := [.int p0]) (rest := []) ⟨hx, hb, hml, hown, hts⟩ (c_Mo_actOf l dC dI cI cJ cG cZ a fi fl ai al p0 _ hw) (cwV 1 hts (zw_goodV kw_766 kw_768 kw_s18 kw_9 kw_769) rfl rfl rfl hd_Mo_actOf ⟨Nat.le_of_ble_eq_true rfl, Nat.le_of_ble_eq_true rfl⟩) (zw_preV (ci := 7) (q0 := 0) hK hN hP rfl rfl) rfl rfl hl.1 rfl (lv_room (Nat.le_of_ble_eq_true rfl)) d_Mo_add_17 ⟨Nat.le_of_ble_eq_true rfl, Nat.le_of_ble_eq_true rfl⟩)) (fun r17 hw => ?_)
        refine lv_if_lt (tgt := 25) hx hb d_Mo_add_20 (by decide) (fun c20 => ?_) (fun c20 => ?_)
        · have hw := zw_ite_t c20 hw
          refine lv_iconst (v := (0 : Int32)) hx hb d_Mo_add_25 (by decide) ?_
          refine lv_topi (fun v26 ev26 => ?_)
          have hw := zw_nm_x ev26 hw
          refine lv_istore_n (lv' := [(2, .int v26), (0, .ref (a 0)), (1, .int p0)]) hx hb d_Mo_add_26 rfl hl (by decide) rfl (fun ls hl => ?_)
          refine (zw_lp1_i (P := fun (x27_2 : Int32) => ∀ (H : Heap) (locs : List Loc) (ls : Array Slot), va_P (dC, dI) vwCl (mw cI cJ cG cZ a fi fl ai al) H → va_D A (mw cI cJ cG cZ a fi fl ai al) → va_S A s.heap H locs → lv_has ls 3 [(0, .ref (a 0)), (1, .int p0), (2, .int x27_2)] → W p l e (headSpec ws_Mo_add ({ frames := 2, cells := 0, slots := 0, locals := 46 })).room s m ([.ref (a 0), .int p0] : List Value).toArray below meth c H locs 0 0 (MQ below (va_Qi (fun r (u : zw_Z) => (zw_k_fi_air fl al K) r u.1 u.2.1 u.2.2.1 u.2.2.2) (fun u t => zw_E (dC, dI) vwCl [(cI, .int), (cJ, .long), (cG, .array .int), (cZ, .boolean)] A (mw cI cJ cG cZ a u.1 u.2.1 u.2.2.1 u.2.2.2) t) A) ([.ref (a 0), .int p0] : List Value).toArray s 0 0 A) (F0 m 27 ls [])) hw (fun L27 x27_2 ih27 hw H locs ls hP hD hS hl => ?_)) H locs ls hP hD hS (lv_sub hl [1, 2, 0] rfl)
          refine lv_iload_n hx hb d_Mo_add_27 rfl (lv_at hl 2 rfl) ?_
          refine lv_aload_n hx hb d_Mo_add_28 rfl (lv_at hl 0 rfl) ?_
          refine va_get (D := (dC, dI)) (ci := 7) (v := .int (fi 0)) (C := R_Mo) (T := T_Mo) (N := 36) hx hb ht in_Mo hown hK hP 0 rfl rfl 0 (by decide) (ht _ kw_613) (fun _ h9 => h9) rfl d_Mo_add_29 ?_
          refine lv_icmp_ge (tgt := 65) hx hb d_Mo_add_32 (by decide) (fun c32 => ?_) (fun c32 => ?_)
          · have hw := zw_ite_t c32 hw
            refine lv_aload_n hx hb d_Mo_add_65 rfl (lv_at hl 0 rfl) ?_
            refine lv_iconst (v := (0 : Int32)) hx hb d_Mo_add_66 (by decide) ?_
            refine lv_iload_n hx hb d_Mo_add_67 rfl (lv_at hl 1 rfl) ?_
            refine lv_iconst (v := (0 : Int32)) hx hb d_Mo_add_68 (by decide) ?_
            refine zw_cv (va_runV (As := [.int (0 : Int32), .int p0, .int (0 : Int32)]) (rest := []) ⟨hx, hb, hml, hown, hts⟩ (c_Mo_put l dC dI cI cJ cG cZ a H.size fi fl ai al (0 : Int32) p0 (0 : Int32) _ hw) (cwV 3 hts (zw_goodV kw_791 kw_793 kw_s22 kw_9 kw_794) rfl rfl rfl hd_Mo_put ⟨Nat.le_of_ble_eq_true rfl, Nat.le_of_ble_eq_true rfl⟩) (zw_preVw (ci := 7) (q0 := 0) hK hN hP hD rfl rfl) rfl rfl hl.1 rfl (lv_room (Nat.le_of_ble_eq_true rfl)) d_Mo_add_69 ⟨Nat.le_of_ble_eq_true rfl, Nat.le_of_ble_eq_true rfl⟩) hD hS hA (fun fi_69 fl_69 ai_69 al_69 H locs hw hP hD hS => ?_)
            obtain ⟨rfl, rfl, hw⟩ := hw
            refine lv_iconst (v := (1 : Int32)) hx hb d_Mo_add_72 (by decide) ?_
            exact W.zret (v := (1 : Int32)) (ty := .boolean) hx hb hr rfl (fun t ht hW => ⟨⟨(1 : Int32), (fi_69, fl, ai_69, al), rfl, ⟨rfl, rfl, hw⟩, by rw [ht]; exact hP, va_K.moved hW.alike hK, hD⟩, hS.F ht⟩) hS.2.2 d_Mo_add_73
          · have hw := zw_ite_f c32 hw
            refine lv_aload_n hx hb d_Mo_add_35 rfl (lv_at hl 0 rfl) ?_
            refine va_get (D := (dC, dI)) (ci := 7) (v := .ref (a 8)) (C := R_Mo) (T := T_Mo) (N := 36) hx hb ht in_Mo hown hK hP 0 rfl rfl 9 (by decide) (ht _ kw_622) (fun _ h9 => h9) rfl d_Mo_add_36 ?_
            refine lv_bipush (v := (6 : Int32)) hx hb d_Mo_add_39 (by decide) ?_
            refine lv_iload_n hx hb d_Mo_add_41 rfl (lv_at hl 2 rfl) ?_
            refine lv_imul hx hb d_Mo_add_42 ?_
            refine lv_iload_n hx hb d_Mo_add_43 rfl (lv_at hl 1 rfl) ?_
            refine lv_iadd hx hb d_Mo_add_44 ?_
            obtain ⟨h45, hw⟩ := hw
            refine va_zald (f := ai 8) hx hb hK hP 8 3 rfl rfl h45 d_Mo_add_45 ?_
            refine zw_jn0_i (P := ∀ (H : Heap) (locs : List Loc) (ls : Array Slot), va_P (dC, dI) vwCl (mw cI cJ cG cZ a fi fl ai al) H → va_D A (mw cI cJ cG cZ a fi fl ai al) → va_S A s.heap H locs → lv_has ls 3 [(0, .ref (a 0)), (1, .int p0), (2, .int x27_2)] → W p l e (headSpec ws_Mo_add ({ frames := 2, cells := 0, slots := 0, locals := 46 })).room s m ([.ref (a 0), .int p0] : List Value).toArray below meth c H locs 0 0 (MQ below (va_Qi (fun r (u : zw_Z) => (zw_k_fi_air fl al K) r u.1 u.2.1 u.2.2.1 u.2.2.2) (fun u t => zw_E (dC, dI) vwCl [(cI, .int), (cJ, .long), (cG, .array .int), (cZ, .boolean)] A (mw cI cJ cG cZ a u.1 u.2.1 u.2.2.1 u.2.2.2) t) A) ([.ref (a 0), .int p0] : List Value).toArray s 0 0 A) (F0 m 59 ls [])) hw (fun hw H locs ls hP hD hS hl => ?_) (fun J59 hj59 hw => ?_)
            · obtain ⟨v59, ev59⟩ : ∃ y : Int32, y = x27_2 + (1 : Int32) := ⟨_, rfl⟩
              refine lv_iinc (v := v59) (lv' := [(2, .int v59), (0, .ref (a 0)), (1, .int p0)]) hx hb d_Mo_add_59 hl (k := 2) rfl (by rw [ev59]; rfl) (by decide) rfl (fun ls hl => ?_)
              have hw := zw_nm_x ev59 hw
              refine lv_goto (tgt := 27) hx hb d_Mo_add_62 (by decide) ?_
              exact (ih27 v59 hw) H locs ls hP hD hS (lv_sub hl [1, 2, 0] rfl)
            · refine lv_if_eq (tgt := 59) hx hb d_Mo_add_46 (by decide) (fun c46 => ?_) (fun c46 => ?_)
              · have hw := zw_ite_t c46 hw
                exact (hj59  hw) H locs ls hP hD hS (lv_sub hl [0, 1, 2] rfl)
              · have hw := zw_ite_f c46 hw
                refine lv_aload_n hx hb d_Mo_add_49 rfl (lv_at hl 0 rfl) ?_
                refine lv_iload_n hx hb d_Mo_add_50 rfl (lv_at hl 2 rfl) ?_
                refine vp_callSi (va_Run.run (va_runV (As := [.int x27_2]) (rest := []) ⟨hx, hb, hml, hown, hts⟩ (c_Mo_actOf l dC dI cI cJ cG cZ a fi fl ai al x27_2 _ hw) (cwV 1 hts (zw_goodV kw_766 kw_768 kw_s18 kw_9 kw_769) rfl rfl rfl hd_Mo_actOf ⟨Nat.le_of_ble_eq_true rfl, Nat.le_of_ble_eq_true rfl⟩) (zw_preV (ci := 7) (q0 := 0) hK hN hP rfl rfl) rfl rfl hl.1 rfl (lv_room (Nat.le_of_ble_eq_true rfl)) d_Mo_add_51 ⟨Nat.le_of_ble_eq_true rfl, Nat.le_of_ble_eq_true rfl⟩)) (fun r51 hw => ?_)
                refine lv_if_ge (tgt := 59) hx hb d_Mo_add_54 (by decide) (fun c54 => ?_) (fun c54 => ?_)
                · have hw := zw_ite_t c54 hw
                  exact (hj59  hw) H locs ls hP hD hS (lv_sub hl [0, 1, 2] rfl)
                · have hw := zw_ite_f c54 hw
                  refine lv_iconst (v := (0 : Int32)) hx hb d_Mo_add_57 (by decide) ?_
                  exact W.zret (v := (0 : Int32)) (ty := .boolean) hx hb hr rfl (fun t ht hW => ⟨⟨(0 : Int32), (fi, fl, ai, al), rfl, ⟨rfl, rfl, hw⟩, by rw [ht]; exact hP, va_K.moved hW.alike hK, hD⟩, hS.F ht⟩) hS.2.2 d_Mo_add_58
        · have hw := zw_ite_f c20 hw
          refine lv_iconst (v := (0 : Int32)) hx hb d_Mo_add_23 (by decide) ?_
          exact W.zret (v := (0 : Int32)) (ty := .boolean) hx hb hr rfl (fun t ht hW => ⟨⟨(0 : Int32), (fi, fl, ai, al), rfl, ⟨rfl, rfl, hw⟩, by rw [ht]; exact hP, va_K.moved hW.alike hK, hD⟩, hS.F ht⟩) hS.2.2 d_Mo_add_24
  rw [hH, hlo] at key
  exact key
def Mo_load_w (fi : Nat → Int32) (fl : Nat → Int64) (ai : Nat → Nat → Int32) (al : Nat → Nat → Int64) (p0 : Int32) (p1 : Int32) (K : Int32 → (Nat → Int32) → (Nat → Nat → Int32) → Prop) : Prop :=
  Mo_mayPut_w fi fl ai al  (fun (r1 : Int32) =>
  if r1 = 0 then (
    K (0 : Int32) fi ai)
  else (
    Mo_isPart_w fi fl ai al p0 (fun (r9 : Int32) =>
    if r9 = 0 then (
      K (0 : Int32) fi ai)
    else (
      Mo_actOf_w fi fl ai al p0 (fun (r17 : Int32) =>
      if r17 < 0 then (
        K (0 : Int32) fi ai)
      else (
        Mo_in_w p1.toInt64 (-1000 : Int64) (1000 : Int64) (fun (r31 : Int32) =>
        if r31 = 0 then (
          K (0 : Int32) fi ai)
        else (
          Mo_put_w fi fl ai al (1 : Int32) p0 p1 (fun (fi_43 : Nat → Int32) (ai_43 : Nat → Nat → Int32) =>
          K (1 : Int32) fi_43 ai_43)))))))))
theorem d_Mo_load_0 : decode b_Mo_load 0 = .ok (.aload_n 0, 1) := by decide +kernel
theorem d_Mo_load_1 : decode b_Mo_load 1 = .ok (.invokevirtual 153, 3) := by decide +kernel
theorem d_Mo_load_4 : decode b_Mo_load 4 = .ok (.ifCond .eq (33), 3) := by decide +kernel
theorem d_Mo_load_7 : decode b_Mo_load 7 = .ok (.aload_n 0, 1) := by decide +kernel
theorem d_Mo_load_8 : decode b_Mo_load 8 = .ok (.iload_n 1, 1) := by decide +kernel
theorem d_Mo_load_9 : decode b_Mo_load 9 = .ok (.invokevirtual 110, 3) := by decide +kernel
theorem d_Mo_load_12 : decode b_Mo_load 12 = .ok (.ifCond .eq (25), 3) := by decide +kernel
theorem d_Mo_load_15 : decode b_Mo_load 15 = .ok (.aload_n 0, 1) := by decide +kernel
theorem d_Mo_load_16 : decode b_Mo_load 16 = .ok (.iload_n 1, 1) := by decide +kernel
theorem d_Mo_load_17 : decode b_Mo_load 17 = .ok (.invokevirtual 140, 3) := by decide +kernel
theorem d_Mo_load_20 : decode b_Mo_load 20 = .ok (.ifCond .lt (17), 3) := by decide +kernel
theorem d_Mo_load_23 : decode b_Mo_load 23 = .ok (.iload_n 2, 1) := by decide +kernel
theorem d_Mo_load_24 : decode b_Mo_load 24 = .ok (.i2l, 1) := by decide +kernel
theorem d_Mo_load_25 : decode b_Mo_load 25 = .ok (.ldc2_w 122, 3) := by decide +kernel
theorem d_Mo_load_28 : decode b_Mo_load 28 = .ok (.ldc2_w 114, 3) := by decide +kernel
theorem d_Mo_load_31 : decode b_Mo_load 31 = .ok (.invokestatic 103, 3) := by decide +kernel
theorem d_Mo_load_34 : decode b_Mo_load 34 = .ok (.ifCond .ne (5), 3) := by decide +kernel
theorem d_Mo_load_37 : decode b_Mo_load 37 = .ok (.iconst 0, 1) := by decide +kernel
theorem d_Mo_load_38 : decode b_Mo_load 38 = .ok (.ireturn, 1) := by decide +kernel
theorem d_Mo_load_39 : decode b_Mo_load 39 = .ok (.aload_n 0, 1) := by decide +kernel
theorem d_Mo_load_40 : decode b_Mo_load 40 = .ok (.iconst 1, 1) := by decide +kernel
theorem d_Mo_load_41 : decode b_Mo_load 41 = .ok (.iload_n 1, 1) := by decide +kernel
theorem d_Mo_load_42 : decode b_Mo_load 42 = .ok (.iload_n 2, 1) := by decide +kernel
theorem d_Mo_load_43 : decode b_Mo_load 43 = .ok (.invokevirtual 157, 3) := by decide +kernel
theorem d_Mo_load_46 : decode b_Mo_load 46 = .ok (.iconst 1, 1) := by decide +kernel
theorem d_Mo_load_47 : decode b_Mo_load 47 = .ok (.ireturn, 1) := by decide +kernel
set_option maxHeartbeats 4000000 in
set_option maxRecDepth 100000 in
theorem c_Mo_load (l : Launch) (dC : Nat → ClassId) (dI : Nat → Nat → Nat) (cI cJ cG cZ : ClassId) (a : Nat → Nat) (sz : Nat) (fi : Nat → Int32) (fl : Nat → Int64) (ai : Nat → Nat → Int32) (al : Nat → Nat → Int64) (p0 : Int32) (p1 : Int32) (K : Int32 → (Nat → Int32) → (Nat → Nat → Int32) → Prop) (hw : Mo_load_w fi fl ai al p0 p1 K) : Met l y_Mo_load ws_Mo_load ({ frames := 2, cells := 0, slots := 0, locals := 46 }) (va_Pc [.ref (a 0), .int p0, .int p1] (zw_Bw (dC, dI) vwCl [(cI, .int), (cJ, .long), (cG, .array .int), (cZ, .boolean)] (mw cI cJ cG cZ a fi fl ai al) sz)) (va_Qi (fun r (u : zw_Z) => (zw_k_fi_air fl al K) r u.1 u.2.1 u.2.2.1 u.2.2.2) (fun u t => zw_E (dC, dI) vwCl [(cI, .int), (cJ, .long), (cG, .array .int), (cZ, .boolean)] (va_A (mw cI cJ cG cZ a fi fl ai al) sz) (mw cI cJ cG cZ a u.1 u.2.1 u.2.2.1 u.2.2.2) t) (va_A (mw cI cJ cG cZ a fi fl ai al) sz)) 0 0 (va_A (mw cI cJ cG cZ a fi fl ai al) sz) := by
  refine Met.ofW (cc := b_Mo_load) (maxL := 3) (ret := (Option.some FieldType.boolean)) (by decide) rfl ?_
  intro p e s m args below meth c s₁ B hml hv
  obtain ⟨rfl, hsz, hP, hK, hD0, hN⟩ := hv
  have hx := B.exec
  have hb := B.bytes
  have hr := B.returns
  have hts := atoms_spec (ws := ws_Mo_load) B.pre
  have ht : ∀ w ∈ zw_tbl, w.before _ s = true := fun w h => hts w (List.mem_cons_of_mem _ h)
  have hown : s.vm.findClass R_Mo = some m.cls := findClass_of_methodNamed B.named
  have hlocks := B.notSynchronized
  subst hsz
  have hD := hD0.self (sz := s.heap.size)
  generalize hAe : va_A (mw cI cJ cG cZ a fi fl ai al) s.heap.size = A at hD ⊢
  have hA : ∀ q : Nat, s.heap.size ≤ q → A q := fun q h => by rw [← hAe]; exact Or.inr h
  have hS : va_S A s.heap s.heap [] := va_S.rf
  have hl := lv_entry ([.ref (a 0), .int p0, .int p1] : List Value) (n := 3) (Nat.le_of_ble_eq_true rfl)
  rw [lg_entry_eq]
  generalize (lg_sl ([.ref (a 0), .int p0, .int p1] : List Value) ++ List.replicate (3 - (lg_sl ([.ref (a 0), .int p0, .int p1] : List Value)).length) Slot.unset).toArray = ls at hl ⊢
  have hl : lv_has ls 3 [(0, .ref (a 0)), (1, .int p0), (2, .int p1)] := hl
  unfold Mo_load_w at hw
  obtain ⟨H, hH⟩ : ∃ H, H = s.heap := ⟨_, rfl⟩
  obtain ⟨locs, hlo⟩ : ∃ q : List Loc, q = [] := ⟨_, rfl⟩
  have hP : va_P (dC, dI) vwCl (mw cI cJ cG cZ a fi fl ai al) H := by rw [hH]; exact hP
  have hS : va_S A s.heap H locs := by rw [hH, hlo]; exact hS
  have key : W p l e (headSpec ws_Mo_load ({ frames := 2, cells := 0, slots := 0, locals := 46 })).room s m ([.ref (a 0), .int p0, .int p1] : List Value).toArray below meth c H locs 0 0 (MQ below (va_Qi (fun r (u : zw_Z) => (zw_k_fi_air fl al K) r u.1 u.2.1 u.2.2.1 u.2.2.2) (fun u t => zw_E (dC, dI) vwCl [(cI, .int), (cJ, .long), (cG, .array .int), (cZ, .boolean)] A (mw cI cJ cG cZ a u.1 u.2.1 u.2.2.1 u.2.2.2) t) A) ([.ref (a 0), .int p0, .int p1] : List Value).toArray s 0 0 A) (F0 m 0 ls []) := by
    refine lv_aload_n hx hb d_Mo_load_0 rfl (lv_at hl 0 rfl) ?_
    refine vp_callSi (va_Run.run (va_runV (As := []) (rest := []) ⟨hx, hb, hml, hown, hts⟩ (c_Mo_mayPut l dC dI cI cJ cG cZ a fi fl ai al _ hw) (cwV 0 hts (zw_goodV kw_787 kw_789 kw_s21 kw_9 kw_790) rfl rfl rfl hd_Mo_mayPut ⟨Nat.le_of_ble_eq_true rfl, Nat.le_of_ble_eq_true rfl⟩) (zw_preV (ci := 7) (q0 := 0) hK hN hP rfl rfl) rfl rfl hl.1 rfl (lv_room (Nat.le_of_ble_eq_true rfl)) d_Mo_load_1 ⟨Nat.le_of_ble_eq_true rfl, Nat.le_of_ble_eq_true rfl⟩)) (fun r1 hw => ?_)
    refine lv_if_eq (tgt := 37) hx hb d_Mo_load_4 (by decide) (fun c4 => ?_) (fun c4 => ?_)
    · have hw := zw_ite_t c4 hw
      refine lv_iconst (v := (0 : Int32)) hx hb d_Mo_load_37 (by decide) ?_
      exact W.zret (v := (0 : Int32)) (ty := .boolean) hx hb hr rfl (fun t ht hW => ⟨⟨(0 : Int32), (fi, fl, ai, al), rfl, ⟨rfl, rfl, hw⟩, by rw [ht]; exact hP, va_K.moved hW.alike hK, hD⟩, hS.F ht⟩) hS.2.2 d_Mo_load_38
    · have hw := zw_ite_f c4 hw
      refine lv_aload_n hx hb d_Mo_load_7 rfl (lv_at hl 0 rfl) ?_
      refine lv_iload_n hx hb d_Mo_load_8 rfl (lv_at hl 1 rfl) ?_
      refine vp_callSi (va_Run.run (va_runV (As := [.int p0]) (rest := []) ⟨hx, hb, hml, hown, hts⟩ (c_Mo_isPart l dC dI cI cJ cG cZ a fi fl ai al p0 _ hw) (cwV 1 hts (zw_goodV kw_727 kw_729 kw_s16 kw_9 kw_730) rfl rfl rfl hd_Mo_isPart ⟨Nat.le_of_ble_eq_true rfl, Nat.le_of_ble_eq_true rfl⟩) (zw_preV (ci := 7) (q0 := 0) hK hN hP rfl rfl) rfl rfl hl.1 rfl (lv_room (Nat.le_of_ble_eq_true rfl)) d_Mo_load_9 ⟨Nat.le_of_ble_eq_true rfl, Nat.le_of_ble_eq_true rfl⟩)) (fun r9 hw => ?_)
      refine lv_if_eq (tgt := 37) hx hb d_Mo_load_12 (by decide) (fun c12 => ?_) (fun c12 => ?_)
      · have hw := zw_ite_t c12 hw
        refine lv_iconst (v := (0 : Int32)) hx hb d_Mo_load_37 (by decide) ?_
        exact W.zret (v := (0 : Int32)) (ty := .boolean) hx hb hr rfl (fun t ht hW => ⟨⟨(0 : Int32), (fi, fl, ai, al), rfl, ⟨rfl, rfl, hw⟩, by rw [ht]; exact hP, va_K.moved hW.alike hK, hD⟩, hS.F ht⟩) hS.2.2 d_Mo_load_38
      · have hw := zw_ite_f c12 hw
        refine lv_aload_n hx hb d_Mo_load_15 rfl (lv_at hl 0 rfl) ?_
        refine lv_iload_n hx hb d_Mo_load_16 rfl (lv_at hl 1 rfl) ?_
        refine vp_callSi (va_Run.run (va_runV (As := [.int p0]) (rest := []) ⟨hx, hb, hml, hown, hts⟩ (c_Mo_actOf l dC dI cI cJ cG cZ a fi fl ai al p0 _ hw) (cwV 1 hts (zw_goodV kw_766 kw_768 kw_s18 kw_9 kw_769) rfl rfl rfl hd_Mo_actOf ⟨Nat.le_of_ble_eq_true rfl, Nat.le_of_ble_eq_true rfl⟩) (zw_preV (ci := 7) (q0 := 0) hK hN hP rfl rfl) rfl rfl hl.1 rfl (lv_room (Nat.le_of_ble_eq_true rfl)) d_Mo_load_17 ⟨Nat.le_of_ble_eq_true rfl, Nat.le_of_ble_eq_true rfl⟩)) (fun r17 hw => ?_)
        refine lv_if_lt (tgt := 37) hx hb d_Mo_load_20 (by decide) (fun c20 => ?_) (fun c20 => ?_)
        · have hw := zw_ite_t c20 hw
          refine lv_iconst (v := (0 : Int32)) hx hb d_Mo_load_37 (by decide) ?_
          exact W.zret (v := (0 : Int32)) (ty := .boolean) hx hb hr rfl (fun t ht hW => ⟨⟨(0 : Int32), (fi, fl, ai, al), rfl, ⟨rfl, rfl, hw⟩, by rw [ht]; exact hP, va_K.moved hW.alike hK, hD⟩, hS.F ht⟩) hS.2.2 d_Mo_load_38
        · have hw := zw_ite_f c20 hw
          refine lv_iload_n hx hb d_Mo_load_23 rfl (lv_at hl 2 rfl) ?_
          refine lv_i2l hx hb d_Mo_load_24 rfl ?_
          refine lv_ldc2 (v := (-1000 : Int64)) hx hb hown (hts (.constantLong R_Mo 122 (-1000 : Int64)) (by decide +kernel)) d_Mo_load_25 ?_
          refine lv_ldc2 (v := (1000 : Int64)) hx hb hown (hts (.constantLong R_Mo 114 (1000 : Int64)) (by decide +kernel)) d_Mo_load_28 ?_
          refine vp_callSi (va_Run.run (va_runS (As := [.long p1.toInt64, .long (-1000 : Int64), .long (1000 : Int64)]) (rest := []) ⟨hx, hb, hml, hown, hts⟩ (c_Mo_in l p1.toInt64 (-1000 : Int64) (1000 : Int64) _ hw) (va_cwS 3 hts (zw_goodS kw_731 kw_732 kw_9 kw_733) rfl rfl rfl hd_Mo_in.2 ⟨Nat.le_of_ble_eq_true rfl, Nat.le_of_ble_eq_true rfl⟩) zw_preS0 rfl rfl hl.1 rfl (lv_room (Nat.le_of_ble_eq_true rfl)) d_Mo_load_31 ⟨Nat.le_of_ble_eq_true rfl, Nat.le_of_ble_eq_true rfl⟩)) (fun r31 hw => ?_)
          refine lv_if_ne (tgt := 39) hx hb d_Mo_load_34 (by decide) (fun c34 => ?_) (fun c34 => ?_)
          · have hw := zw_ite_f c34 hw
            refine lv_aload_n hx hb d_Mo_load_39 rfl (lv_at hl 0 rfl) ?_
            refine lv_iconst (v := (1 : Int32)) hx hb d_Mo_load_40 (by decide) ?_
            refine lv_iload_n hx hb d_Mo_load_41 rfl (lv_at hl 1 rfl) ?_
            refine lv_iload_n hx hb d_Mo_load_42 rfl (lv_at hl 2 rfl) ?_
            refine zw_cv (va_runV (As := [.int (1 : Int32), .int p0, .int p1]) (rest := []) ⟨hx, hb, hml, hown, hts⟩ (c_Mo_put l dC dI cI cJ cG cZ a H.size fi fl ai al (1 : Int32) p0 p1 _ hw) (cwV 3 hts (zw_goodV kw_791 kw_793 kw_s22 kw_9 kw_794) rfl rfl rfl hd_Mo_put ⟨Nat.le_of_ble_eq_true rfl, Nat.le_of_ble_eq_true rfl⟩) (zw_preVw (ci := 7) (q0 := 0) hK hN hP hD rfl rfl) rfl rfl hl.1 rfl (lv_room (Nat.le_of_ble_eq_true rfl)) d_Mo_load_43 ⟨Nat.le_of_ble_eq_true rfl, Nat.le_of_ble_eq_true rfl⟩) hD hS hA (fun fi_43 fl_43 ai_43 al_43 H locs hw hP hD hS => ?_)
            obtain ⟨rfl, rfl, hw⟩ := hw
            refine lv_iconst (v := (1 : Int32)) hx hb d_Mo_load_46 (by decide) ?_
            exact W.zret (v := (1 : Int32)) (ty := .boolean) hx hb hr rfl (fun t ht hW => ⟨⟨(1 : Int32), (fi_43, fl, ai_43, al), rfl, ⟨rfl, rfl, hw⟩, by rw [ht]; exact hP, va_K.moved hW.alike hK, hD⟩, hS.F ht⟩) hS.2.2 d_Mo_load_47
          · have hw := zw_ite_t c34 hw
            refine lv_iconst (v := (0 : Int32)) hx hb d_Mo_load_37 (by decide) ?_
            exact W.zret (v := (0 : Int32)) (ty := .boolean) hx hb hr rfl (fun t ht hW => ⟨⟨(0 : Int32), (fi, fl, ai, al), rfl, ⟨rfl, rfl, hw⟩, by rw [ht]; exact hP, va_K.moved hW.alike hK, hD⟩, hS.F ht⟩) hS.2.2 d_Mo_load_38
  rw [hH, hlo] at key
  exact key
def Mo_isOn_w (fi : Nat → Int32) (fl : Nat → Int64) (ai : Nat → Nat → Int32) (al : Nat → Nat → Int64) (p0 : Int32) (K : Int32 → Prop) : Prop :=
  zw_nm (0 : Int32) (fun (v1 : Int32) =>
  zw_nm (0 : Int32) (fun (v3 : Int32) =>
  zw_lp2 (fun L4 (x4_2 : Int32) (x4_3 : Int32) =>
  if (fi 3) ≤ x4_3 then (
    zw_bool x4_2 ∧ (K x4_2))
  else (
    vp_in x4_3 40 ∧ (
    zw_jn1 (fun (y51_0 : Int32) =>
    zw_nm (x4_3 + (1 : Int32)) (fun (v52 : Int32) =>
    L4 y51_0 v52)) (fun J51 =>
    zw_jn0 (
    J51 x4_2) (fun J50 =>
    if (ai 10 x4_3.toNatClampNeg) ≤ (1 : Int32) then (
      J50)
    else (
      vp_in x4_3 40 ∧ (
      if (ai 11 x4_3.toNatClampNeg) = p0 then (
        vp_in x4_3 40 ∧ (
        if (ai 10 x4_3.toNatClampNeg) = (2 : Int32) then (
          J51 (1 : Int32))
        else (
          J51 (0 : Int32))))
      else (
        J50)))))))) v1 v3))
theorem d_Mo_isOn_0 : decode b_Mo_isOn 0 = .ok (.iconst 0, 1) := by decide +kernel
theorem d_Mo_isOn_1 : decode b_Mo_isOn 1 = .ok (.istore_n 2, 1) := by decide +kernel
theorem d_Mo_isOn_2 : decode b_Mo_isOn 2 = .ok (.iconst 0, 1) := by decide +kernel
theorem d_Mo_isOn_3 : decode b_Mo_isOn 3 = .ok (.istore_n 3, 1) := by decide +kernel
theorem d_Mo_isOn_4 : decode b_Mo_isOn 4 = .ok (.iload_n 3, 1) := by decide +kernel
theorem d_Mo_isOn_5 : decode b_Mo_isOn 5 = .ok (.aload_n 0, 1) := by decide +kernel
theorem d_Mo_isOn_6 : decode b_Mo_isOn 6 = .ok (.getfield 133, 3) := by decide +kernel
theorem d_Mo_isOn_9 : decode b_Mo_isOn 9 = .ok (.if_icmp .ge (49), 3) := by decide +kernel
theorem d_Mo_isOn_12 : decode b_Mo_isOn 12 = .ok (.aload_n 0, 1) := by decide +kernel
theorem d_Mo_isOn_13 : decode b_Mo_isOn 13 = .ok (.getfield 38, 3) := by decide +kernel
theorem d_Mo_isOn_16 : decode b_Mo_isOn 16 = .ok (.iload_n 3, 1) := by decide +kernel
theorem d_Mo_isOn_17 : decode b_Mo_isOn 17 = .ok (.iaload, 1) := by decide +kernel
theorem d_Mo_isOn_18 : decode b_Mo_isOn 18 = .ok (.iconst 1, 1) := by decide +kernel
theorem d_Mo_isOn_19 : decode b_Mo_isOn 19 = .ok (.if_icmp .le (31), 3) := by decide +kernel
theorem d_Mo_isOn_22 : decode b_Mo_isOn 22 = .ok (.aload_n 0, 1) := by decide +kernel
theorem d_Mo_isOn_23 : decode b_Mo_isOn 23 = .ok (.getfield 41, 3) := by decide +kernel
theorem d_Mo_isOn_26 : decode b_Mo_isOn 26 = .ok (.iload_n 3, 1) := by decide +kernel
theorem d_Mo_isOn_27 : decode b_Mo_isOn 27 = .ok (.iaload, 1) := by decide +kernel
theorem d_Mo_isOn_28 : decode b_Mo_isOn 28 = .ok (.iload_n 1, 1) := by decide +kernel
theorem d_Mo_isOn_29 : decode b_Mo_isOn 29 = .ok (.if_icmp .ne (21), 3) := by decide +kernel
theorem d_Mo_isOn_32 : decode b_Mo_isOn 32 = .ok (.aload_n 0, 1) := by decide +kernel
theorem d_Mo_isOn_33 : decode b_Mo_isOn 33 = .ok (.getfield 38, 3) := by decide +kernel
theorem d_Mo_isOn_36 : decode b_Mo_isOn 36 = .ok (.iload_n 3, 1) := by decide +kernel
theorem d_Mo_isOn_37 : decode b_Mo_isOn 37 = .ok (.iaload, 1) := by decide +kernel
theorem d_Mo_isOn_38 : decode b_Mo_isOn 38 = .ok (.iconst 2, 1) := by decide +kernel
theorem d_Mo_isOn_39 : decode b_Mo_isOn 39 = .ok (.if_icmp .ne (7), 3) := by decide +kernel
theorem d_Mo_isOn_42 : decode b_Mo_isOn 42 = .ok (.iconst 1, 1) := by decide +kernel
theorem d_Mo_isOn_43 : decode b_Mo_isOn 43 = .ok (.goto (8), 3) := by decide +kernel
theorem d_Mo_isOn_46 : decode b_Mo_isOn 46 = .ok (.iconst 0, 1) := by decide +kernel
theorem d_Mo_isOn_47 : decode b_Mo_isOn 47 = .ok (.goto (4), 3) := by decide +kernel
theorem d_Mo_isOn_50 : decode b_Mo_isOn 50 = .ok (.iload_n 2, 1) := by decide +kernel
theorem d_Mo_isOn_51 : decode b_Mo_isOn 51 = .ok (.istore_n 2, 1) := by decide +kernel
theorem d_Mo_isOn_52 : decode b_Mo_isOn 52 = .ok (.iinc 3 (1), 3) := by decide +kernel
theorem d_Mo_isOn_55 : decode b_Mo_isOn 55 = .ok (.goto (-51), 3) := by decide +kernel
theorem d_Mo_isOn_58 : decode b_Mo_isOn 58 = .ok (.iload_n 2, 1) := by decide +kernel
theorem d_Mo_isOn_59 : decode b_Mo_isOn 59 = .ok (.ireturn, 1) := by decide +kernel
set_option maxHeartbeats 4000000 in
set_option maxRecDepth 100000 in
theorem c_Mo_isOn (l : Launch) (dC : Nat → ClassId) (dI : Nat → Nat → Nat) (cI cJ cG cZ : ClassId) (a : Nat → Nat) (fi : Nat → Int32) (fl : Nat → Int64) (ai : Nat → Nat → Int32) (al : Nat → Nat → Int64) (p0 : Int32) (K : Int32 → Prop) (hw : Mo_isOn_w fi fl ai al p0 K) : Met l y_Mo_isOn ws_Mo_isOn ({ frames := 0, cells := 0, slots := 0, locals := 0 }) (va_Pc [.ref (a 0), .int p0] (zw_B (dC, dI) vwCl [(cI, .int), (cJ, .long), (cG, .array .int), (cZ, .boolean)] (mw cI cJ cG cZ a fi fl ai al))) (vp_Si K) 0 0 (fun _ => False) := by
  refine Met.ofW (cc := b_Mo_isOn) (maxL := 4) (ret := (Option.some FieldType.boolean)) (by decide) rfl ?_
  intro p e s m args below meth c s₁ B hml hv
  obtain ⟨rfl, hP, hK, hN⟩ := hv
  have hx := B.exec
  have hb := B.bytes
  have hr := B.returns
  have hts := atoms_spec (ws := ws_Mo_isOn) B.pre
  have ht : ∀ w ∈ zw_tbl, w.before _ s = true := fun w h => hts w (List.mem_cons_of_mem _ h)
  have hown : s.vm.findClass R_Mo = some m.cls := findClass_of_methodNamed B.named
  have hlocks := B.notSynchronized
  have hl := lv_entry ([.ref (a 0), .int p0] : List Value) (n := 4) (Nat.le_of_ble_eq_true rfl)
  rw [lg_entry_eq]
  generalize (lg_sl ([.ref (a 0), .int p0] : List Value) ++ List.replicate (4 - (lg_sl ([.ref (a 0), .int p0] : List Value)).length) Slot.unset).toArray = ls at hl ⊢
  have hl : lv_has ls 4 [(0, .ref (a 0)), (1, .int p0)] := hl
  unfold Mo_isOn_w at hw
  refine lv_iconst (v := (0 : Int32)) hx hb d_Mo_isOn_0 (by decide) ?_
  refine lv_topi (fun v1 ev1 => ?_)
  have hw := zw_nm_x ev1 hw
  refine lv_istore_n (lv' := [(2, .int v1), (0, .ref (a 0)), (1, .int p0)]) hx hb d_Mo_isOn_1 rfl hl (by decide) rfl (fun ls hl => ?_)
  refine lv_iconst (v := (0 : Int32)) hx hb d_Mo_isOn_2 (by decide) ?_
  refine lv_topi (fun v3 ev3 => ?_)
  have hw := zw_nm_x ev3 hw
  refine lv_istore_n (lv' := [(3, .int v3), (2, .int v1), (0, .ref (a 0)), (1, .int p0)]) hx hb d_Mo_isOn_3 rfl hl (by decide) rfl (fun ls hl => ?_)
  refine (zw_lp2_i (P := fun (x4_2 : Int32) (x4_3 : Int32) => ∀ (ls : Array Slot), lv_has ls 4 [(0, .ref (a 0)), (1, .int p0), (2, .int x4_2), (3, .int x4_3)] → W p l e (headSpec ws_Mo_isOn ({ frames := 0, cells := 0, slots := 0, locals := 0 })).room s m ([.ref (a 0), .int p0] : List Value).toArray below meth c s.heap [] 0 0 (MQ below (vp_Si K) ([.ref (a 0), .int p0] : List Value).toArray s 0 0 (fun _ => False)) (F0 m 4 ls [])) hw (fun L4 x4_2 x4_3 ih4 hw ls hl => ?_)) ls (lv_sub hl [2, 3, 1, 0] rfl)
  refine lv_iload_n hx hb d_Mo_isOn_4 rfl (lv_at hl 3 rfl) ?_
  refine lv_aload_n hx hb d_Mo_isOn_5 rfl (lv_at hl 0 rfl) ?_
  refine va_get (D := (dC, dI)) (ci := 7) (v := .int (fi 3)) (C := R_Mo) (T := T_Mo) (N := 36) hx hb ht in_Mo hown hK hP 0 rfl rfl 16 (by decide) (ht _ kw_629) (fun _ h9 => h9) rfl d_Mo_isOn_6 ?_
  refine lv_icmp_ge (tgt := 58) hx hb d_Mo_isOn_9 (by decide) (fun c9 => ?_) (fun c9 => ?_)
  · have hw := zw_ite_t c9 hw
    refine lv_iload_n hx hb d_Mo_isOn_58 rfl (lv_at hl 2 rfl) ?_
    obtain ⟨hz, hw⟩ := hw
    exact W.zret (v := x4_2) (ty := .boolean) hx hb hr (zw_bool_n hz) (fun t ht hW => ⟨x4_2, rfl, hw, ht⟩) t_nil d_Mo_isOn_59
  · have hw := zw_ite_f c9 hw
    refine lv_aload_n hx hb d_Mo_isOn_12 rfl (lv_at hl 0 rfl) ?_
    refine va_get (D := (dC, dI)) (ci := 7) (v := .ref (a 10)) (C := R_Mo) (T := T_Mo) (N := 36) hx hb ht in_Mo hown hK hP 0 rfl rfl 12 (by decide) (ht _ kw_625) (fun _ h9 => h9) rfl d_Mo_isOn_13 ?_
    refine lv_iload_n hx hb d_Mo_isOn_16 rfl (lv_at hl 3 rfl) ?_
    obtain ⟨h17, hw⟩ := hw
    refine va_iald (f := ai 10) hx hb hK hP 10 0 rfl rfl h17 d_Mo_isOn_17 ?_
    refine lv_iconst (v := (1 : Int32)) hx hb d_Mo_isOn_18 (by decide) ?_
    refine zw_jn1_i (P := fun (y51_0 : Int32) => ∀ (ls : Array Slot), lv_has ls 4 [(0, .ref (a 0)), (1, .int p0), (3, .int x4_3)] → W p l e (headSpec ws_Mo_isOn ({ frames := 0, cells := 0, slots := 0, locals := 0 })).room s m ([.ref (a 0), .int p0] : List Value).toArray below meth c s.heap [] 0 0 (MQ below (vp_Si K) ([.ref (a 0), .int p0] : List Value).toArray s 0 0 (fun _ => False)) (F0 m 51 ls [.int y51_0])) hw (fun y51_0 hw ls hl => ?_) (fun J51 hj51 hw => ?_)
    · refine lv_istore_n (lv' := [(2, .int y51_0), (0, .ref (a 0)), (1, .int p0), (3, .int x4_3)]) hx hb d_Mo_isOn_51 rfl hl (by decide) rfl (fun ls hl => ?_)
      obtain ⟨v52, ev52⟩ : ∃ y : Int32, y = x4_3 + (1 : Int32) := ⟨_, rfl⟩
      refine lv_iinc (v := v52) (lv' := [(3, .int v52), (2, .int y51_0), (0, .ref (a 0)), (1, .int p0)]) hx hb d_Mo_isOn_52 hl (k := 3) rfl (by rw [ev52]; rfl) (by decide) rfl (fun ls hl => ?_)
      have hw := zw_nm_x ev52 hw
      refine lv_goto (tgt := 4) hx hb d_Mo_isOn_55 (by decide) ?_
      exact (ih4 y51_0 v52 hw) ls (lv_sub hl [2, 3, 1, 0] rfl)
    · refine zw_jn0_i (P := ∀ (ls : Array Slot), lv_has ls 4 [(0, .ref (a 0)), (1, .int p0), (2, .int x4_2), (3, .int x4_3)] → W p l e (headSpec ws_Mo_isOn ({ frames := 0, cells := 0, slots := 0, locals := 0 })).room s m ([.ref (a 0), .int p0] : List Value).toArray below meth c s.heap [] 0 0 (MQ below (vp_Si K) ([.ref (a 0), .int p0] : List Value).toArray s 0 0 (fun _ => False)) (F0 m 50 ls [])) hw (fun hw ls hl => ?_) (fun J50 hj50 hw => ?_)
      · refine lv_iload_n hx hb d_Mo_isOn_50 rfl (lv_at hl 2 rfl) ?_
        exact (hj51 x4_2 hw) ls (lv_sub hl [0, 1, 3] rfl)
      · refine lv_icmp_le (tgt := 50) hx hb d_Mo_isOn_19 (by decide) (fun c19 => ?_) (fun c19 => ?_)
        · have hw := zw_ite_t c19 hw
          exact (hj50  hw) ls (lv_sub hl [0, 1, 2, 3] rfl)
        · have hw := zw_ite_f c19 hw
          refine lv_aload_n hx hb d_Mo_isOn_22 rfl (lv_at hl 0 rfl) ?_
          refine va_get (D := (dC, dI)) (ci := 7) (v := .ref (a 11)) (C := R_Mo) (T := T_Mo) (N := 36) hx hb ht in_Mo hown hK hP 0 rfl rfl 13 (by decide) (ht _ kw_626) (fun _ h9 => h9) rfl d_Mo_isOn_23 ?_
          refine lv_iload_n hx hb d_Mo_isOn_26 rfl (lv_at hl 3 rfl) ?_
          obtain ⟨h27, hw⟩ := hw
          refine va_iald (f := ai 11) hx hb hK hP 11 0 rfl rfl h27 d_Mo_isOn_27 ?_
          refine lv_iload_n hx hb d_Mo_isOn_28 rfl (lv_at hl 1 rfl) ?_
          refine lv_icmp_ne (tgt := 50) hx hb d_Mo_isOn_29 (by decide) (fun c29 => ?_) (fun c29 => ?_)
          · have hw := zw_ite_f c29 hw
            exact (hj50  hw) ls (lv_sub hl [0, 1, 2, 3] rfl)
          · have hw := zw_ite_t c29 hw
            refine lv_aload_n hx hb d_Mo_isOn_32 rfl (lv_at hl 0 rfl) ?_
            refine va_get (D := (dC, dI)) (ci := 7) (v := .ref (a 10)) (C := R_Mo) (T := T_Mo) (N := 36) hx hb ht in_Mo hown hK hP 0 rfl rfl 12 (by decide) (ht _ kw_625) (fun _ h9 => h9) rfl d_Mo_isOn_33 ?_
            refine lv_iload_n hx hb d_Mo_isOn_36 rfl (lv_at hl 3 rfl) ?_
            obtain ⟨h37, hw⟩ := hw
            refine va_iald (f := ai 10) hx hb hK hP 10 0 rfl rfl h37 d_Mo_isOn_37 ?_
            refine lv_iconst (v := (2 : Int32)) hx hb d_Mo_isOn_38 (by decide) ?_
            refine lv_icmp_ne (tgt := 46) hx hb d_Mo_isOn_39 (by decide) (fun c39 => ?_) (fun c39 => ?_)
            · have hw := zw_ite_f c39 hw
              refine lv_iconst (v := (0 : Int32)) hx hb d_Mo_isOn_46 (by decide) ?_
              refine lv_goto (tgt := 51) hx hb d_Mo_isOn_47 (by decide) ?_
              exact (hj51 (0 : Int32) hw) ls (lv_sub hl [0, 1, 3] rfl)
            · have hw := zw_ite_t c39 hw
              refine lv_iconst (v := (1 : Int32)) hx hb d_Mo_isOn_42 (by decide) ?_
              refine lv_goto (tgt := 51) hx hb d_Mo_isOn_43 (by decide) ?_
              exact (hj51 (1 : Int32) hw) ls (lv_sub hl [0, 1, 3] rfl)
