def Mo_redo_w (fi : Nat → Int32) (fl : Nat → Int64) (ai : Nat → Nat → Int32) (al : Nat → Nat → Int64) (p0 : Int32) (K : Int64 → (Nat → Int32) → (Nat → Nat → Int64) → Prop) : Prop :=
  Mo_isStage_w fi fl ai al p0 (fun (r2 : Int32) =>
  if r2 = 0 then (
    K (-1000000000000000000 : Int64) fi al)
  else (
    zw_nm (0 : Int32) (fun (v13 : Int32) =>
    zw_lp3 (fun L14 (x14_2 : Int32) (fi14 : Nat → Int32) (al14 : Nat → Nat → Int64) =>
    zw_jn0 (
    zw_nm (va_up fi14 2 p0) (fun (fi_81 : Nat → Int32) =>
    Mo_lookAtEnd_w fi_81 fl ai al14  (fun (fi_85 : Nat → Int32) =>
    K x14_2.toInt64 fi_85 al14))) (fun J79 =>
    if (fi14 3) ≤ 0 then (
      J79)
    else (
      vp_in ((fi14 3) - (1 : Int32)) 40 ∧ (
      if (ai 13 ((fi14 3) - (1 : Int32)).toNatClampNeg) < p0 then (
        J79)
      else (
        zw_nm (va_up fi14 3 ((fi14 3) - (1 : Int32))) (fun (fi_43 : Nat → Int32) =>
        zw_nm (x14_2 + (1 : Int32)) (fun (v46 : Int32) =>
        vp_in (fi_43 3) 40 ∧ (
        if (ai 10 (fi_43 3).toNatClampNeg) = 0 then (
          vp_in (fi_43 3) 40 ∧ (
          vp_in (ai 11 (fi_43 3).toNatClampNeg) 6 ∧ (zw_nm (va_up al14 14 (vp_updL (al14 14) (ai 11 (fi_43 3).toNatClampNeg).toNatClampNeg (0 : Int64))) (fun (al_75 : Nat → Nat → Int64) =>
          L14 v46 fi_43 al_75))))
        else (
          L14 v46 fi_43 al14))))))))) v13 fi al)))
theorem d_Mo_redo_0 : decode b_Mo_redo 0 = .ok (.aload_n 0, 1) := by decide +kernel
theorem d_Mo_redo_1 : decode b_Mo_redo 1 = .ok (.iload_n 1, 1) := by decide +kernel
theorem d_Mo_redo_2 : decode b_Mo_redo 2 = .ok (.invokevirtual 197, 3) := by decide +kernel
theorem d_Mo_redo_5 : decode b_Mo_redo 5 = .ok (.ifCond .ne (7), 3) := by decide +kernel
theorem d_Mo_redo_8 : decode b_Mo_redo 8 = .ok (.ldc2_w 148, 3) := by decide +kernel
theorem d_Mo_redo_11 : decode b_Mo_redo 11 = .ok (.lreturn, 1) := by decide +kernel
theorem d_Mo_redo_12 : decode b_Mo_redo 12 = .ok (.iconst 0, 1) := by decide +kernel
theorem d_Mo_redo_13 : decode b_Mo_redo 13 = .ok (.istore_n 2, 1) := by decide +kernel
theorem d_Mo_redo_14 : decode b_Mo_redo 14 = .ok (.aload_n 0, 1) := by decide +kernel
theorem d_Mo_redo_15 : decode b_Mo_redo 15 = .ok (.getfield 133, 3) := by decide +kernel
theorem d_Mo_redo_18 : decode b_Mo_redo 18 = .ok (.ifCond .le (61), 3) := by decide +kernel
theorem d_Mo_redo_21 : decode b_Mo_redo 21 = .ok (.aload_n 0, 1) := by decide +kernel
theorem d_Mo_redo_22 : decode b_Mo_redo 22 = .ok (.getfield 47, 3) := by decide +kernel
theorem d_Mo_redo_25 : decode b_Mo_redo 25 = .ok (.aload_n 0, 1) := by decide +kernel
theorem d_Mo_redo_26 : decode b_Mo_redo 26 = .ok (.getfield 133, 3) := by decide +kernel
theorem d_Mo_redo_29 : decode b_Mo_redo 29 = .ok (.iconst 1, 1) := by decide +kernel
theorem d_Mo_redo_30 : decode b_Mo_redo 30 = .ok (.isub, 1) := by decide +kernel
theorem d_Mo_redo_31 : decode b_Mo_redo 31 = .ok (.iaload, 1) := by decide +kernel
theorem d_Mo_redo_32 : decode b_Mo_redo 32 = .ok (.iload_n 1, 1) := by decide +kernel
theorem d_Mo_redo_33 : decode b_Mo_redo 33 = .ok (.if_icmp .lt (46), 3) := by decide +kernel
theorem d_Mo_redo_36 : decode b_Mo_redo 36 = .ok (.aload_n 0, 1) := by decide +kernel
theorem d_Mo_redo_37 : decode b_Mo_redo 37 = .ok (.dup, 1) := by decide +kernel
theorem d_Mo_redo_38 : decode b_Mo_redo 38 = .ok (.getfield 133, 3) := by decide +kernel
theorem d_Mo_redo_41 : decode b_Mo_redo 41 = .ok (.iconst 1, 1) := by decide +kernel
theorem d_Mo_redo_42 : decode b_Mo_redo 42 = .ok (.isub, 1) := by decide +kernel
theorem d_Mo_redo_43 : decode b_Mo_redo 43 = .ok (.putfield 133, 3) := by decide +kernel
theorem d_Mo_redo_46 : decode b_Mo_redo 46 = .ok (.iinc 2 (1), 3) := by decide +kernel
theorem d_Mo_redo_49 : decode b_Mo_redo 49 = .ok (.aload_n 0, 1) := by decide +kernel
theorem d_Mo_redo_50 : decode b_Mo_redo 50 = .ok (.getfield 38, 3) := by decide +kernel
theorem d_Mo_redo_53 : decode b_Mo_redo 53 = .ok (.aload_n 0, 1) := by decide +kernel
theorem d_Mo_redo_54 : decode b_Mo_redo 54 = .ok (.getfield 133, 3) := by decide +kernel
theorem d_Mo_redo_57 : decode b_Mo_redo 57 = .ok (.iaload, 1) := by decide +kernel
theorem d_Mo_redo_58 : decode b_Mo_redo 58 = .ok (.ifCond .ne (-44), 3) := by decide +kernel
theorem d_Mo_redo_61 : decode b_Mo_redo 61 = .ok (.aload_n 0, 1) := by decide +kernel
theorem d_Mo_redo_62 : decode b_Mo_redo 62 = .ok (.getfield 50, 3) := by decide +kernel
theorem d_Mo_redo_65 : decode b_Mo_redo 65 = .ok (.aload_n 0, 1) := by decide +kernel
theorem d_Mo_redo_66 : decode b_Mo_redo 66 = .ok (.getfield 41, 3) := by decide +kernel
theorem d_Mo_redo_69 : decode b_Mo_redo 69 = .ok (.aload_n 0, 1) := by decide +kernel
theorem d_Mo_redo_70 : decode b_Mo_redo 70 = .ok (.getfield 133, 3) := by decide +kernel
theorem d_Mo_redo_73 : decode b_Mo_redo 73 = .ok (.iaload, 1) := by decide +kernel
theorem d_Mo_redo_74 : decode b_Mo_redo 74 = .ok (.lconst 0, 1) := by decide +kernel
theorem d_Mo_redo_75 : decode b_Mo_redo 75 = .ok (.lastore, 1) := by decide +kernel
theorem d_Mo_redo_76 : decode b_Mo_redo 76 = .ok (.goto (-62), 3) := by decide +kernel
theorem d_Mo_redo_79 : decode b_Mo_redo 79 = .ok (.aload_n 0, 1) := by decide +kernel
theorem d_Mo_redo_80 : decode b_Mo_redo 80 = .ok (.iload_n 1, 1) := by decide +kernel
theorem d_Mo_redo_81 : decode b_Mo_redo 81 = .ok (.putfield 107, 3) := by decide +kernel
theorem d_Mo_redo_84 : decode b_Mo_redo 84 = .ok (.aload_n 0, 1) := by decide +kernel
theorem d_Mo_redo_85 : decode b_Mo_redo 85 = .ok (.invokevirtual 150, 3) := by decide +kernel
theorem d_Mo_redo_88 : decode b_Mo_redo 88 = .ok (.iload_n 2, 1) := by decide +kernel
theorem d_Mo_redo_89 : decode b_Mo_redo 89 = .ok (.i2l, 1) := by decide +kernel
theorem d_Mo_redo_90 : decode b_Mo_redo 90 = .ok (.lreturn, 1) := by decide +kernel
set_option maxHeartbeats 4000000 in
set_option maxRecDepth 100000 in
theorem c_Mo_redo (l : Launch) (dC : Nat → ClassId) (dI : Nat → Nat → Nat) (cI cJ cG cZ : ClassId) (a : Nat → Nat) (sz : Nat) (fi : Nat → Int32) (fl : Nat → Int64) (ai : Nat → Nat → Int32) (al : Nat → Nat → Int64) (p0 : Int32) (K : Int64 → (Nat → Int32) → (Nat → Nat → Int64) → Prop) (hw : Mo_redo_w fi fl ai al p0 K) : Met l y_Mo_redo ws_Mo_redo ({ frames := 2, cells := 0, slots := 0, locals := 46 }) (va_Pc [.ref (a 0), .int p0] (zw_Bw (dC, dI) vwCl [(cI, .int), (cJ, .long), (cG, .array .int), (cZ, .boolean)] (mw cI cJ cG cZ a fi fl ai al) sz)) (va_Ql (fun r (u : zw_Z) => (zw_k_fi_alr fl ai K) r u.1 u.2.1 u.2.2.1 u.2.2.2) (fun u t => zw_E (dC, dI) vwCl [(cI, .int), (cJ, .long), (cG, .array .int), (cZ, .boolean)] (va_A (mw cI cJ cG cZ a fi fl ai al) sz) (mw cI cJ cG cZ a u.1 u.2.1 u.2.2.1 u.2.2.2) t) (va_A (mw cI cJ cG cZ a fi fl ai al) sz)) 0 0 (va_A (mw cI cJ cG cZ a fi fl ai al) sz) := by
  refine Met.ofW (cc := b_Mo_redo) (maxL := 3) (ret := (Option.some FieldType.long)) (by decide) rfl ?_
  intro p e s m args below meth c s₁ B hml hv
  obtain ⟨rfl, hsz, hP, hK, hD0, hN⟩ := hv
  have hx := B.exec
  have hb := B.bytes
  have hr := B.returns
  have hts := atoms_spec (ws := ws_Mo_redo) B.pre
  have ht : ∀ w ∈ zw_tbl, w.before _ s = true := fun w h => hts w (List.mem_cons_of_mem _ h)
  have hown : s.vm.findClass R_Mo = some m.cls := findClass_of_methodNamed B.named
  have hlocks := B.notSynchronized
  subst hsz
  have hD := hD0.self (sz := s.heap.size)
  generalize hAe : va_A (mw cI cJ cG cZ a fi fl ai al) s.heap.size = A at hD ⊢
  have hA : ∀ q : Nat, s.heap.size ≤ q → A q := fun q h => by rw [← hAe]; exact Or.inr h
  have hS : va_S A s.heap s.heap [] := va_S.rf
  have hl := lv_entry ([.ref (a 0), .int p0] : List Value) (n := 3) (Nat.le_of_ble_eq_true rfl)
  rw [lg_entry_eq]
  generalize (lg_sl ([.ref (a 0), .int p0] : List Value) ++ List.replicate (3 - (lg_sl ([.ref (a 0), .int p0] : List Value)).length) Slot.unset).toArray = ls at hl ⊢
  have hl : lv_has ls 3 [(0, .ref (a 0)), (1, .int p0)] := hl
  unfold Mo_redo_w at hw
  obtain ⟨H, hH⟩ : ∃ H, H = s.heap := ⟨_, rfl⟩
  obtain ⟨locs, hlo⟩ : ∃ q : List Loc, q = [] := ⟨_, rfl⟩
  have hP : va_P (dC, dI) vwCl (mw cI cJ cG cZ a fi fl ai al) H := by rw [hH]; exact hP
  have hS : va_S A s.heap H locs := by rw [hH, hlo]; exact hS
  have key : W p l e (headSpec ws_Mo_redo ({ frames := 2, cells := 0, slots := 0, locals := 46 })).room s m ([.ref (a 0), .int p0] : List Value).toArray below meth c H locs 0 0 (MQ below (va_Ql (fun r (u : zw_Z) => (zw_k_fi_alr fl ai K) r u.1 u.2.1 u.2.2.1 u.2.2.2) (fun u t => zw_E (dC, dI) vwCl [(cI, .int), (cJ, .long), (cG, .array .int), (cZ, .boolean)] A (mw cI cJ cG cZ a u.1 u.2.1 u.2.2.1 u.2.2.2) t) A) ([.ref (a 0), .int p0] : List Value).toArray s 0 0 A) (F0 m 0 ls []) := by
    refine lv_aload_n hx hb d_Mo_redo_0 rfl (lv_at hl 0 rfl) ?_
    refine lv_iload_n hx hb d_Mo_redo_1 rfl (lv_at hl 1 rfl) ?_
    refine vp_callSi (va_Run.run (va_runV (As := [.int p0]) (rest := []) ⟨hx, hb, hml, hown, hts⟩ (c_Mo_isStage l dC dI cI cJ cG cZ a fi fl ai al p0 _ hw) (cwV 1 hts (zw_goodV kw_836 kw_838 kw_s29 kw_9 kw_839) rfl rfl rfl hd_Mo_isStage ⟨Nat.le_of_ble_eq_true rfl, Nat.le_of_ble_eq_true rfl⟩) (zw_preV (ci := 7) (q0 := 0) hK hN hP rfl rfl) rfl rfl hl.1 rfl (lv_room (Nat.le_of_ble_eq_true rfl)) d_Mo_redo_2 ⟨Nat.le_of_ble_eq_true rfl, Nat.le_of_ble_eq_true rfl⟩)) (fun r2 hw => ?_)
    refine lv_if_ne (tgt := 12) hx hb d_Mo_redo_5 (by decide) (fun c5 => ?_) (fun c5 => ?_)
    · have hw := zw_ite_f c5 hw
      refine lv_iconst (v := (0 : Int32)) hx hb d_Mo_redo_12 (by decide) ?_
      refine lv_topi (fun v13 ev13 => ?_)
      have hw := zw_nm_x ev13 hw
      refine lv_istore_n (lv' := [(2, .int v13), (0, .ref (a 0)), (1, .int p0)]) hx hb d_Mo_redo_13 rfl hl (by decide) rfl (fun ls hl => ?_)
      refine (zw_lp3_i (P := fun (x14_2 : Int32) (fi14 : Nat → Int32) (al14 : Nat → Nat → Int64) => ∀ (H : Heap) (locs : List Loc) (ls : Array Slot), va_P (dC, dI) vwCl (mw cI cJ cG cZ a fi14 fl ai al14) H → va_D A (mw cI cJ cG cZ a fi14 fl ai al14) → va_S A s.heap H locs → lv_has ls 3 [(0, .ref (a 0)), (1, .int p0), (2, .int x14_2)] → W p l e (headSpec ws_Mo_redo ({ frames := 2, cells := 0, slots := 0, locals := 46 })).room s m ([.ref (a 0), .int p0] : List Value).toArray below meth c H locs 0 0 (MQ below (va_Ql (fun r (u : zw_Z) => (zw_k_fi_alr fl ai K) r u.1 u.2.1 u.2.2.1 u.2.2.2) (fun u t => zw_E (dC, dI) vwCl [(cI, .int), (cJ, .long), (cG, .array .int), (cZ, .boolean)] A (mw cI cJ cG cZ a u.1 u.2.1 u.2.2.1 u.2.2.2) t) A) ([.ref (a 0), .int p0] : List Value).toArray s 0 0 A) (F0 m 14 ls [])) hw (fun L14 x14_2 fi14 al14 ih14 hw H locs ls hP hD hS hl => ?_)) H locs ls hP hD hS (lv_sub hl [1, 2, 0] rfl)
      refine lv_aload_n hx hb d_Mo_redo_14 rfl (lv_at hl 0 rfl) ?_
      refine va_get (D := (dC, dI)) (ci := 7) (v := .int (fi14 3)) (C := R_Mo) (T := T_Mo) (N := 36) hx hb ht in_Mo hown hK hP 0 rfl rfl 16 (by decide) (ht _ kw_629) (fun _ h9 => h9) rfl d_Mo_redo_15 ?_
      refine zw_jn0_i (P := ∀ (H : Heap) (locs : List Loc) (ls : Array Slot), va_P (dC, dI) vwCl (mw cI cJ cG cZ a fi14 fl ai al14) H → va_D A (mw cI cJ cG cZ a fi14 fl ai al14) → va_S A s.heap H locs → lv_has ls 3 [(0, .ref (a 0)), (1, .int p0), (2, .int x14_2)] → W p l e (headSpec ws_Mo_redo ({ frames := 2, cells := 0, slots := 0, locals := 46 })).room s m ([.ref (a 0), .int p0] : List Value).toArray below meth c H locs 0 0 (MQ below (va_Ql (fun r (u : zw_Z) => (zw_k_fi_alr fl ai K) r u.1 u.2.1 u.2.2.1 u.2.2.2) (fun u t => zw_E (dC, dI) vwCl [(cI, .int), (cJ, .long), (cG, .array .int), (cZ, .boolean)] A (mw cI cJ cG cZ a u.1 u.2.1 u.2.2.1 u.2.2.2) t) A) ([.ref (a 0), .int p0] : List Value).toArray s 0 0 A) (F0 m 79 ls [])) hw (fun hw H locs ls hP hD hS hl => ?_) (fun J79 hj79 hw => ?_)
      · refine lv_aload_n hx hb d_Mo_redo_79 rfl (lv_at hl 0 rfl) ?_
        refine lv_iload_n hx hb d_Mo_redo_80 rfl (lv_at hl 1 rfl) ?_
        refine va_put (D := (dC, dI)) (ci := 7) (v := .int p0) (ty := .int) (C := R_Mo) (T := T_Mo) (N := 36) hx hb ht in_Mo t_Mo t_Mo_ok n_Mo hown hK hP hD hS 0 rfl rfl 11 (by decide) (ht _ kw_624) (fun _ h9 => h9) rfl (by decide +kernel) rfl rfl (Nat.le_of_ble_eq_true rfl) d_Mo_redo_81 (fun H locs hP hD hS => ?_)
        have hP := mwpfi_2 hP
        have hD := mwdfi_2 hD
        obtain ⟨fi_81, efi_81⟩ : ∃ z, z = va_up fi14 2 p0 := ⟨_, rfl⟩
        rw [← efi_81] at hP hD
        have hw := zw_nm_x efi_81 hw
        refine lv_aload_n hx hb d_Mo_redo_84 rfl (lv_at hl 0 rfl) ?_
        refine zw_cv (va_runV (As := []) (rest := []) ⟨hx, hb, hml, hown, hts⟩ (c_Mo_lookAtEnd l dC dI cI cJ cG cZ a H.size fi_81 fl ai al14 _ hw) (cwV 0 hts (zw_goodV kw_779 kw_781 kw_s20 kw_9 kw_782) rfl rfl rfl hd_Mo_lookAtEnd ⟨Nat.le_of_ble_eq_true rfl, Nat.le_of_ble_eq_true rfl⟩) (zw_preVw (ci := 7) (q0 := 0) hK hN hP hD rfl rfl) rfl rfl hl.1 rfl (lv_room (Nat.le_of_ble_eq_true rfl)) d_Mo_redo_85 ⟨Nat.le_of_ble_eq_true rfl, Nat.le_of_ble_eq_true rfl⟩) hD hS hA (fun fi_85 fl_85 ai_85 al_85 H locs hw hP hD hS => ?_)
        obtain ⟨rfl, rfl, rfl, hw⟩ := hw
        refine lv_iload_n hx hb d_Mo_redo_88 rfl (lv_at hl 2 rfl) ?_
        refine lv_i2l hx hb d_Mo_redo_89 rfl ?_
        exact W.lret (v := x14_2.toInt64) hx hb hr (fun t ht hW => ⟨⟨x14_2.toInt64, (fi_85, fl, ai, al14), rfl, ⟨rfl, rfl, hw⟩, by rw [ht]; exact hP, va_K.moved hW.alike hK, hD⟩, hS.F ht⟩) hS.2.2 d_Mo_redo_90
      · refine lv_if_le (tgt := 79) hx hb d_Mo_redo_18 (by decide) (fun c18 => ?_) (fun c18 => ?_)
        · have hw := zw_ite_t c18 hw
          exact (hj79  hw) H locs ls hP hD hS (lv_sub hl [0, 1, 2] rfl)
        · have hw := zw_ite_f c18 hw
          refine lv_aload_n hx hb d_Mo_redo_21 rfl (lv_at hl 0 rfl) ?_
          refine va_get (D := (dC, dI)) (ci := 7) (v := .ref (a 13)) (C := R_Mo) (T := T_Mo) (N := 36) hx hb ht in_Mo hown hK hP 0 rfl rfl 15 (by decide) (ht _ kw_628) (fun _ h9 => h9) rfl d_Mo_redo_22 ?_
          refine lv_aload_n hx hb d_Mo_redo_25 rfl (lv_at hl 0 rfl) ?_
          refine va_get (D := (dC, dI)) (ci := 7) (v := .int (fi14 3)) (C := R_Mo) (T := T_Mo) (N := 36) hx hb ht in_Mo hown hK hP 0 rfl rfl 16 (by decide) (ht _ kw_629) (fun _ h9 => h9) rfl d_Mo_redo_26 ?_
          refine lv_iconst (v := (1 : Int32)) hx hb d_Mo_redo_29 (by decide) ?_
          refine lv_isub hx hb d_Mo_redo_30 ?_
          obtain ⟨h31, hw⟩ := hw
          refine va_iald (f := ai 13) hx hb hK hP 13 0 rfl rfl h31 d_Mo_redo_31 ?_
          refine lv_iload_n hx hb d_Mo_redo_32 rfl (lv_at hl 1 rfl) ?_
          refine lv_icmp_lt (tgt := 79) hx hb d_Mo_redo_33 (by decide) (fun c33 => ?_) (fun c33 => ?_)
          · have hw := zw_ite_t c33 hw
            exact (hj79  hw) H locs ls hP hD hS (lv_sub hl [0, 1, 2] rfl)
          · have hw := zw_ite_f c33 hw
            refine lv_aload_n hx hb d_Mo_redo_36 rfl (lv_at hl 0 rfl) ?_
            refine lv_dup hx hb d_Mo_redo_37 rfl ?_
            refine va_get (D := (dC, dI)) (ci := 7) (v := .int (fi14 3)) (C := R_Mo) (T := T_Mo) (N := 36) hx hb ht in_Mo hown hK hP 0 rfl rfl 16 (by decide) (ht _ kw_629) (fun _ h9 => h9) rfl d_Mo_redo_38 ?_
            refine lv_iconst (v := (1 : Int32)) hx hb d_Mo_redo_41 (by decide) ?_
            refine lv_isub hx hb d_Mo_redo_42 ?_
            refine va_put (D := (dC, dI)) (ci := 7) (v := .int ((fi14 3) - (1 : Int32))) (ty := .int) (C := R_Mo) (T := T_Mo) (N := 36) hx hb ht in_Mo t_Mo t_Mo_ok n_Mo hown hK hP hD hS 0 rfl rfl 16 (by decide) (ht _ kw_629) (fun _ h9 => h9) rfl (by decide +kernel) rfl rfl (Nat.le_of_ble_eq_true rfl) d_Mo_redo_43 (fun H locs hP hD hS => ?_)
            have hP := mwpfi_3 hP
            have hD := mwdfi_3 hD
            obtain ⟨fi_43, efi_43⟩ : ∃ z, z = va_up fi14 3 ((fi14 3) - (1 : Int32)) := ⟨_, rfl⟩
            rw [← efi_43] at hP hD
            have hw := zw_nm_x efi_43 hw
            obtain ⟨v46, ev46⟩ : ∃ y : Int32, y = x14_2 + (1 : Int32) := ⟨_, rfl⟩
            refine lv_iinc (v := v46) (lv' := [(2, .int v46), (0, .ref (a 0)), (1, .int p0)]) hx hb d_Mo_redo_46 hl (k := 2) rfl (by rw [ev46]; rfl) (by decide) rfl (fun ls hl => ?_)
            have hw := zw_nm_x ev46 hw
            refine lv_aload_n hx hb d_Mo_redo_49 rfl (lv_at hl 1 rfl) ?_
            refine va_get (D := (dC, dI)) (ci := 7) (v := .ref (a 10)) (C := R_Mo) (T := T_Mo) (N := 36) hx hb ht in_Mo hown hK hP 0 rfl rfl 12 (by decide) (ht _ kw_625) (fun _ h9 => h9) rfl d_Mo_redo_50 ?_
            refine lv_aload_n hx hb d_Mo_redo_53 rfl (lv_at hl 1 rfl) ?_
            refine va_get (D := (dC, dI)) (ci := 7) (v := .int (fi_43 3)) (C := R_Mo) (T := T_Mo) (N := 36) hx hb ht in_Mo hown hK hP 0 rfl rfl 16 (by decide) (ht _ kw_629) (fun _ h9 => h9) rfl d_Mo_redo_54 ?_
            obtain ⟨h57, hw⟩ := hw
            refine va_iald (f := ai 10) hx hb hK hP 10 0 rfl rfl h57 d_Mo_redo_57 ?_
            refine lv_if_ne (tgt := 14) hx hb d_Mo_redo_58 (by decide) (fun c58 => ?_) (fun c58 => ?_)
            · have hw := zw_ite_f c58 hw
              exact (ih14 v46 fi_43 al14 hw) H locs ls hP hD hS (lv_sub hl [1, 2, 0] rfl)
            · have hw := zw_ite_t c58 hw
              refine lv_aload_n hx hb d_Mo_redo_61 rfl (lv_at hl 1 rfl) ?_
              refine va_get (D := (dC, dI)) (ci := 7) (v := .ref (a 14)) (C := R_Mo) (T := T_Mo) (N := 36) hx hb ht in_Mo hown hK hP 0 rfl rfl 17 (by decide) (ht _ kw_630) (fun _ h9 => h9) rfl d_Mo_redo_62 ?_
              refine lv_aload_n hx hb d_Mo_redo_65 rfl (lv_at hl 1 rfl) ?_
              refine va_get (D := (dC, dI)) (ci := 7) (v := .ref (a 11)) (C := R_Mo) (T := T_Mo) (N := 36) hx hb ht in_Mo hown hK hP 0 rfl rfl 13 (by decide) (ht _ kw_626) (fun _ h9 => h9) rfl d_Mo_redo_66 ?_
              refine lv_aload_n hx hb d_Mo_redo_69 rfl (lv_at hl 1 rfl) ?_
              refine va_get (D := (dC, dI)) (ci := 7) (v := .int (fi_43 3)) (C := R_Mo) (T := T_Mo) (N := 36) hx hb ht in_Mo hown hK hP 0 rfl rfl 16 (by decide) (ht _ kw_629) (fun _ h9 => h9) rfl d_Mo_redo_70 ?_
              obtain ⟨h73, hw⟩ := hw
              refine va_iald (f := ai 11) hx hb hK hP 11 0 rfl rfl h73 d_Mo_redo_73 ?_
              refine lv_lconst (v := (0 : Int64)) hx hb d_Mo_redo_74 (by decide) ?_
              obtain ⟨h75, hw⟩ := hw
              refine va_last (f := al14 14) hx hb hK hP hD hS 14 1 rfl rfl h75 d_Mo_redo_75 (fun H locs hP hD hS => ?_)
              have hP := mwpal_14 hP
              have hD := mwdal_14 hD
              obtain ⟨al_75, eal_75⟩ : ∃ z, z = va_up al14 14 (vp_updL (al14 14) (ai 11 (fi_43 3).toNatClampNeg).toNatClampNeg (0 : Int64)) := ⟨_, rfl⟩
              rw [← eal_75] at hP hD
              have hw := zw_nm_x eal_75 hw
              refine lv_goto (tgt := 14) hx hb d_Mo_redo_76 (by decide) ?_
              exact (ih14 v46 fi_43 al_75 hw) H locs ls hP hD hS (lv_sub hl [1, 2, 0] rfl)
    · have hw := zw_ite_t c5 hw
      refine lv_ldc2 (v := (-1000000000000000000 : Int64)) hx hb hown (hts (.constantLong R_Mo 148 (-1000000000000000000 : Int64)) (by decide +kernel)) d_Mo_redo_8 ?_
      exact W.lret (v := (-1000000000000000000 : Int64)) hx hb hr (fun t ht hW => ⟨⟨(-1000000000000000000 : Int64), (fi, fl, ai, al), rfl, ⟨rfl, rfl, hw⟩, by rw [ht]; exact hP, va_K.moved hW.alike hK, hD⟩, hS.F ht⟩) hS.2.2 d_Mo_redo_11
  rw [hH, hlo] at key
  exact key
def Mo_isAllowed_w (fi : Nat → Int32) (fl : Nat → Int64) (ai : Nat → Nat → Int32) (al : Nat → Nat → Int64) (K : Int32 → (Nat → Nat → Int32) → Prop) : Prop :=
  zw_nm (0 : Int32) (fun (v1 : Int32) =>
  zw_lp2 (fun L2 (x2_1 : Int32) (ai2 : Nat → Nat → Int32) =>
  if (6 : Int32) ≤ x2_1 then (
    zw_nm (0 : Int32) (fun (v22 : Int32) =>
    zw_nm (0 : Int32) (fun (v24 : Int32) =>
    zw_lp3 (fun L25 (x25_1 : Int32) (x25_2 : Int32) (ai25 : Nat → Nat → Int32) =>
    if (fi 3) ≤ x25_2 then (
      K (1 : Int32) ai25)
    else (
      vp_in x25_2 40 ∧ (
      zw_jn2 (fun (x131_1 : Int32) (ai131 : Nat → Nat → Int32) =>
      zw_nm (x25_2 + (1 : Int32)) (fun (v131 : Int32) =>
      L25 x131_1 v131 ai131)) (fun J131 =>
      if (ai25 10 x25_2.toNatClampNeg) = 0 then (
        vp_in x25_1 6 ∧ (
        zw_nm (ai25 20 x25_1.toNatClampNeg) (fun (v48 : Int32) =>
        zw_nm (x25_1 + (1 : Int32)) (fun (v49 : Int32) =>
        zw_nm (0 : Int32) (fun (v53 : Int32) =>
        zw_lp1 (fun L55 (x55_4 : Int32) =>
        if (6 : Int32) ≤ x55_4 then (
          vp_in v48 6 ∧ (zw_nm (va_up ai25 27 (upd (ai25 27) v48.toNatClampNeg (vp_nar .boolean (1 : Int32)))) (fun (ai_101 : Nat → Nat → Int32) =>
          J131 v49 ai_101)))
        else (
          vp_in (((6 : Int32) * x55_4) + v48) 36 ∧ (
          zw_jn0 (
          zw_nm (x55_4 + (1 : Int32)) (fun (v89 : Int32) =>
          L55 v89)) (fun J89 =>
          if (ai25 8 (((6 : Int32) * x55_4) + v48).toNatClampNeg) = 0 then (
            J89)
          else (
            vp_in x55_4 6 ∧ (
            if (ai25 27 x55_4.toNatClampNeg) = 0 then (
              K (0 : Int32) ai25)
            else (
              J89))))))) v53)))))
      else (
        vp_in x25_2 40 ∧ (
        if (ai25 10 x25_2.toNatClampNeg) = (1 : Int32) then (
          vp_in x25_2 40 ∧ (
          vp_in (ai25 11 x25_2.toNatClampNeg) 6 ∧ (
          if (ai25 27 (ai25 11 x25_2.toNatClampNeg).toNatClampNeg) = 0 then (
            K (0 : Int32) ai25)
          else (
            J131 x25_1 ai25))))
        else (
          J131 x25_1 ai25))))))) v22 v24 ai2)))
  else (
    vp_in x2_1 6 ∧ (zw_nm (va_up ai2 27 (upd (ai2 27) x2_1.toNatClampNeg (vp_nar .boolean (0 : Int32)))) (fun (ai_14 : Nat → Nat → Int32) =>
    zw_nm (x2_1 + (1 : Int32)) (fun (v15 : Int32) =>
    L2 v15 ai_14))))) v1 ai)
theorem d_Mo_isAllowed_0 : decode b_Mo_isAllowed 0 = .ok (.iconst 0, 1) := by decide +kernel
theorem d_Mo_isAllowed_1 : decode b_Mo_isAllowed 1 = .ok (.istore_n 1, 1) := by decide +kernel
theorem d_Mo_isAllowed_2 : decode b_Mo_isAllowed 2 = .ok (.iload_n 1, 1) := by decide +kernel
theorem d_Mo_isAllowed_3 : decode b_Mo_isAllowed 3 = .ok (.bipush (6), 2) := by decide +kernel
theorem d_Mo_isAllowed_5 : decode b_Mo_isAllowed 5 = .ok (.if_icmp .ge (16), 3) := by decide +kernel
theorem d_Mo_isAllowed_8 : decode b_Mo_isAllowed 8 = .ok (.aload_n 0, 1) := by decide +kernel
theorem d_Mo_isAllowed_9 : decode b_Mo_isAllowed 9 = .ok (.getfield 97, 3) := by decide +kernel
theorem d_Mo_isAllowed_12 : decode b_Mo_isAllowed 12 = .ok (.iload_n 1, 1) := by decide +kernel
theorem d_Mo_isAllowed_13 : decode b_Mo_isAllowed 13 = .ok (.iconst 0, 1) := by decide +kernel
theorem d_Mo_isAllowed_14 : decode b_Mo_isAllowed 14 = .ok (.bastore, 1) := by decide +kernel
theorem d_Mo_isAllowed_15 : decode b_Mo_isAllowed 15 = .ok (.iinc 1 (1), 3) := by decide +kernel
theorem d_Mo_isAllowed_18 : decode b_Mo_isAllowed 18 = .ok (.goto (-16), 3) := by decide +kernel
theorem d_Mo_isAllowed_21 : decode b_Mo_isAllowed 21 = .ok (.iconst 0, 1) := by decide +kernel
theorem d_Mo_isAllowed_22 : decode b_Mo_isAllowed 22 = .ok (.istore_n 1, 1) := by decide +kernel
theorem d_Mo_isAllowed_23 : decode b_Mo_isAllowed 23 = .ok (.iconst 0, 1) := by decide +kernel
theorem d_Mo_isAllowed_24 : decode b_Mo_isAllowed 24 = .ok (.istore_n 2, 1) := by decide +kernel
theorem d_Mo_isAllowed_25 : decode b_Mo_isAllowed 25 = .ok (.iload_n 2, 1) := by decide +kernel
theorem d_Mo_isAllowed_26 : decode b_Mo_isAllowed 26 = .ok (.aload_n 0, 1) := by decide +kernel
theorem d_Mo_isAllowed_27 : decode b_Mo_isAllowed 27 = .ok (.getfield 133, 3) := by decide +kernel
theorem d_Mo_isAllowed_30 : decode b_Mo_isAllowed 30 = .ok (.if_icmp .ge (107), 3) := by decide +kernel
theorem d_Mo_isAllowed_33 : decode b_Mo_isAllowed 33 = .ok (.aload_n 0, 1) := by decide +kernel
theorem d_Mo_isAllowed_34 : decode b_Mo_isAllowed 34 = .ok (.getfield 38, 3) := by decide +kernel
theorem d_Mo_isAllowed_37 : decode b_Mo_isAllowed 37 = .ok (.iload_n 2, 1) := by decide +kernel
theorem d_Mo_isAllowed_38 : decode b_Mo_isAllowed 38 = .ok (.iaload, 1) := by decide +kernel
theorem d_Mo_isAllowed_39 : decode b_Mo_isAllowed 39 = .ok (.ifCond .ne (66), 3) := by decide +kernel
theorem d_Mo_isAllowed_42 : decode b_Mo_isAllowed 42 = .ok (.aload_n 0, 1) := by decide +kernel
theorem d_Mo_isAllowed_43 : decode b_Mo_isAllowed 43 = .ok (.getfield 76, 3) := by decide +kernel
theorem d_Mo_isAllowed_46 : decode b_Mo_isAllowed 46 = .ok (.iload_n 1, 1) := by decide +kernel
theorem d_Mo_isAllowed_47 : decode b_Mo_isAllowed 47 = .ok (.iaload, 1) := by decide +kernel
theorem d_Mo_isAllowed_48 : decode b_Mo_isAllowed 48 = .ok (.istore_n 3, 1) := by decide +kernel
theorem d_Mo_isAllowed_49 : decode b_Mo_isAllowed 49 = .ok (.iinc 1 (1), 3) := by decide +kernel
theorem d_Mo_isAllowed_52 : decode b_Mo_isAllowed 52 = .ok (.iconst 0, 1) := by decide +kernel
theorem d_Mo_isAllowed_53 : decode b_Mo_isAllowed 53 = .ok (.istore 4, 2) := by decide +kernel
theorem d_Mo_isAllowed_55 : decode b_Mo_isAllowed 55 = .ok (.iload 4, 2) := by decide +kernel
theorem d_Mo_isAllowed_57 : decode b_Mo_isAllowed 57 = .ok (.bipush (6), 2) := by decide +kernel
theorem d_Mo_isAllowed_59 : decode b_Mo_isAllowed 59 = .ok (.if_icmp .ge (36), 3) := by decide +kernel
theorem d_Mo_isAllowed_62 : decode b_Mo_isAllowed 62 = .ok (.aload_n 0, 1) := by decide +kernel
theorem d_Mo_isAllowed_63 : decode b_Mo_isAllowed 63 = .ok (.getfield 31, 3) := by decide +kernel
theorem d_Mo_isAllowed_66 : decode b_Mo_isAllowed 66 = .ok (.bipush (6), 2) := by decide +kernel
theorem d_Mo_isAllowed_68 : decode b_Mo_isAllowed 68 = .ok (.iload 4, 2) := by decide +kernel
theorem d_Mo_isAllowed_70 : decode b_Mo_isAllowed 70 = .ok (.imul, 1) := by decide +kernel
theorem d_Mo_isAllowed_71 : decode b_Mo_isAllowed 71 = .ok (.iload_n 3, 1) := by decide +kernel
theorem d_Mo_isAllowed_72 : decode b_Mo_isAllowed 72 = .ok (.iadd, 1) := by decide +kernel
theorem d_Mo_isAllowed_73 : decode b_Mo_isAllowed 73 = .ok (.baload, 1) := by decide +kernel
theorem d_Mo_isAllowed_74 : decode b_Mo_isAllowed 74 = .ok (.ifCond .eq (15), 3) := by decide +kernel
theorem d_Mo_isAllowed_77 : decode b_Mo_isAllowed 77 = .ok (.aload_n 0, 1) := by decide +kernel
theorem d_Mo_isAllowed_78 : decode b_Mo_isAllowed 78 = .ok (.getfield 97, 3) := by decide +kernel
theorem d_Mo_isAllowed_81 : decode b_Mo_isAllowed 81 = .ok (.iload 4, 2) := by decide +kernel
theorem d_Mo_isAllowed_83 : decode b_Mo_isAllowed 83 = .ok (.baload, 1) := by decide +kernel
theorem d_Mo_isAllowed_84 : decode b_Mo_isAllowed 84 = .ok (.ifCond .ne (5), 3) := by decide +kernel
theorem d_Mo_isAllowed_87 : decode b_Mo_isAllowed 87 = .ok (.iconst 0, 1) := by decide +kernel
theorem d_Mo_isAllowed_88 : decode b_Mo_isAllowed 88 = .ok (.ireturn, 1) := by decide +kernel
theorem d_Mo_isAllowed_89 : decode b_Mo_isAllowed 89 = .ok (.iinc 4 (1), 3) := by decide +kernel
theorem d_Mo_isAllowed_92 : decode b_Mo_isAllowed 92 = .ok (.goto (-37), 3) := by decide +kernel
theorem d_Mo_isAllowed_95 : decode b_Mo_isAllowed 95 = .ok (.aload_n 0, 1) := by decide +kernel
theorem d_Mo_isAllowed_96 : decode b_Mo_isAllowed 96 = .ok (.getfield 97, 3) := by decide +kernel
theorem d_Mo_isAllowed_99 : decode b_Mo_isAllowed 99 = .ok (.iload_n 3, 1) := by decide +kernel
theorem d_Mo_isAllowed_100 : decode b_Mo_isAllowed 100 = .ok (.iconst 1, 1) := by decide +kernel
theorem d_Mo_isAllowed_101 : decode b_Mo_isAllowed 101 = .ok (.bastore, 1) := by decide +kernel
theorem d_Mo_isAllowed_102 : decode b_Mo_isAllowed 102 = .ok (.goto (29), 3) := by decide +kernel
theorem d_Mo_isAllowed_105 : decode b_Mo_isAllowed 105 = .ok (.aload_n 0, 1) := by decide +kernel
theorem d_Mo_isAllowed_106 : decode b_Mo_isAllowed 106 = .ok (.getfield 38, 3) := by decide +kernel
theorem d_Mo_isAllowed_109 : decode b_Mo_isAllowed 109 = .ok (.iload_n 2, 1) := by decide +kernel
theorem d_Mo_isAllowed_110 : decode b_Mo_isAllowed 110 = .ok (.iaload, 1) := by decide +kernel
theorem d_Mo_isAllowed_111 : decode b_Mo_isAllowed 111 = .ok (.iconst 1, 1) := by decide +kernel
theorem d_Mo_isAllowed_112 : decode b_Mo_isAllowed 112 = .ok (.if_icmp .ne (19), 3) := by decide +kernel
theorem d_Mo_isAllowed_115 : decode b_Mo_isAllowed 115 = .ok (.aload_n 0, 1) := by decide +kernel
theorem d_Mo_isAllowed_116 : decode b_Mo_isAllowed 116 = .ok (.getfield 97, 3) := by decide +kernel
theorem d_Mo_isAllowed_119 : decode b_Mo_isAllowed 119 = .ok (.aload_n 0, 1) := by decide +kernel
theorem d_Mo_isAllowed_120 : decode b_Mo_isAllowed 120 = .ok (.getfield 41, 3) := by decide +kernel
theorem d_Mo_isAllowed_123 : decode b_Mo_isAllowed 123 = .ok (.iload_n 2, 1) := by decide +kernel
theorem d_Mo_isAllowed_124 : decode b_Mo_isAllowed 124 = .ok (.iaload, 1) := by decide +kernel
theorem d_Mo_isAllowed_125 : decode b_Mo_isAllowed 125 = .ok (.baload, 1) := by decide +kernel
theorem d_Mo_isAllowed_126 : decode b_Mo_isAllowed 126 = .ok (.ifCond .ne (5), 3) := by decide +kernel
theorem d_Mo_isAllowed_129 : decode b_Mo_isAllowed 129 = .ok (.iconst 0, 1) := by decide +kernel
theorem d_Mo_isAllowed_130 : decode b_Mo_isAllowed 130 = .ok (.ireturn, 1) := by decide +kernel
theorem d_Mo_isAllowed_131 : decode b_Mo_isAllowed 131 = .ok (.iinc 2 (1), 3) := by decide +kernel
theorem d_Mo_isAllowed_134 : decode b_Mo_isAllowed 134 = .ok (.goto (-109), 3) := by decide +kernel
theorem d_Mo_isAllowed_137 : decode b_Mo_isAllowed 137 = .ok (.iconst 1, 1) := by decide +kernel
theorem d_Mo_isAllowed_138 : decode b_Mo_isAllowed 138 = .ok (.ireturn, 1) := by decide +kernel
set_option maxHeartbeats 4000000 in
set_option maxRecDepth 100000 in
theorem c_Mo_isAllowed (l : Launch) (dC : Nat → ClassId) (dI : Nat → Nat → Nat) (cI cJ cG cZ : ClassId) (a : Nat → Nat) (sz : Nat) (fi : Nat → Int32) (fl : Nat → Int64) (ai : Nat → Nat → Int32) (al : Nat → Nat → Int64) (K : Int32 → (Nat → Nat → Int32) → Prop) (hw : Mo_isAllowed_w fi fl ai al K) : Met l y_Mo_isAllowed ws_Mo_isAllowed ({ frames := 0, cells := 0, slots := 0, locals := 0 }) (va_Pc [.ref (a 0)] (zw_Bw (dC, dI) vwCl [(cI, .int), (cJ, .long), (cG, .array .int), (cZ, .boolean)] (mw cI cJ cG cZ a fi fl ai al) sz)) (va_Qi (fun r (u : zw_Z) => (zw_k_air fi fl al K) r u.1 u.2.1 u.2.2.1 u.2.2.2) (fun u t => zw_E (dC, dI) vwCl [(cI, .int), (cJ, .long), (cG, .array .int), (cZ, .boolean)] (va_A (mw cI cJ cG cZ a fi fl ai al) sz) (mw cI cJ cG cZ a u.1 u.2.1 u.2.2.1 u.2.2.2) t) (va_A (mw cI cJ cG cZ a fi fl ai al) sz)) 0 0 (va_A (mw cI cJ cG cZ a fi fl ai al) sz) := by
  refine Met.ofW (cc := b_Mo_isAllowed) (maxL := 5) (ret := (Option.some FieldType.boolean)) (by decide) rfl ?_
  intro p e s m args below meth c s₁ B hml hv
  obtain ⟨rfl, hsz, hP, hK, hD0, hN⟩ := hv
  have hx := B.exec
  have hb := B.bytes
  have hr := B.returns
  have hts := atoms_spec (ws := ws_Mo_isAllowed) B.pre
  have ht : ∀ w ∈ zw_tbl, w.before _ s = true := fun w h => hts w (List.mem_cons_of_mem _ h)
  have hown : s.vm.findClass R_Mo = some m.cls := findClass_of_methodNamed B.named
  have hlocks := B.notSynchronized
  subst hsz
  have hD := hD0.self (sz := s.heap.size)
  generalize hAe : va_A (mw cI cJ cG cZ a fi fl ai al) s.heap.size = A at hD ⊢
  have hA : ∀ q : Nat, s.heap.size ≤ q → A q := fun q h => by rw [← hAe]; exact Or.inr h
  have hS : va_S A s.heap s.heap [] := va_S.rf
  have hl := lv_entry ([.ref (a 0)] : List Value) (n := 5) (Nat.le_of_ble_eq_true rfl)
  rw [lg_entry_eq]
  generalize (lg_sl ([.ref (a 0)] : List Value) ++ List.replicate (5 - (lg_sl ([.ref (a 0)] : List Value)).length) Slot.unset).toArray = ls at hl ⊢
  have hl : lv_has ls 5 [(0, .ref (a 0))] := hl
  unfold Mo_isAllowed_w at hw
  obtain ⟨H, hH⟩ : ∃ H, H = s.heap := ⟨_, rfl⟩
  obtain ⟨locs, hlo⟩ : ∃ q : List Loc, q = [] := ⟨_, rfl⟩
  have hP : va_P (dC, dI) vwCl (mw cI cJ cG cZ a fi fl ai al) H := by rw [hH]; exact hP
  have hS : va_S A s.heap H locs := by rw [hH, hlo]; exact hS
  have key : W p l e (headSpec ws_Mo_isAllowed ({ frames := 0, cells := 0, slots := 0, locals := 0 })).room s m ([.ref (a 0)] : List Value).toArray below meth c H locs 0 0 (MQ below (va_Qi (fun r (u : zw_Z) => (zw_k_air fi fl al K) r u.1 u.2.1 u.2.2.1 u.2.2.2) (fun u t => zw_E (dC, dI) vwCl [(cI, .int), (cJ, .long), (cG, .array .int), (cZ, .boolean)] A (mw cI cJ cG cZ a u.1 u.2.1 u.2.2.1 u.2.2.2) t) A) ([.ref (a 0)] : List Value).toArray s 0 0 A) (F0 m 0 ls []) := by
    refine lv_iconst (v := (0 : Int32)) hx hb d_Mo_isAllowed_0 (by decide) ?_
    refine lv_topi (fun v1 ev1 => ?_)
    have hw := zw_nm_x ev1 hw
    refine lv_istore_n (lv' := [(1, .int v1), (0, .ref (a 0))]) hx hb d_Mo_isAllowed_1 rfl hl (by decide) rfl (fun ls hl => ?_)
    refine (zw_lp2_i (P := fun (x2_1 : Int32) (ai2 : Nat → Nat → Int32) => ∀ (H : Heap) (locs : List Loc) (ls : Array Slot), va_P (dC, dI) vwCl (mw cI cJ cG cZ a fi fl ai2 al) H → va_D A (mw cI cJ cG cZ a fi fl ai2 al) → va_S A s.heap H locs → lv_has ls 5 [(0, .ref (a 0)), (1, .int x2_1)] → W p l e (headSpec ws_Mo_isAllowed ({ frames := 0, cells := 0, slots := 0, locals := 0 })).room s m ([.ref (a 0)] : List Value).toArray below meth c H locs 0 0 (MQ below (va_Qi (fun r (u : zw_Z) => (zw_k_air fi fl al K) r u.1 u.2.1 u.2.2.1 u.2.2.2) (fun u t => zw_E (dC, dI) vwCl [(cI, .int), (cJ, .long), (cG, .array .int), (cZ, .boolean)] A (mw cI cJ cG cZ a u.1 u.2.1 u.2.2.1 u.2.2.2) t) A) ([.ref (a 0)] : List Value).toArray s 0 0 A) (F0 m 2 ls [])) hw (fun L2 x2_1 ai2 ih2 hw H locs ls hP hD hS hl => ?_)) H locs ls hP hD hS (lv_sub hl [1, 0] rfl)
    refine lv_iload_n hx hb d_Mo_isAllowed_2 rfl (lv_at hl 1 rfl) ?_
    refine lv_bipush (v := (6 : Int32)) hx hb d_Mo_isAllowed_3 (by decide) ?_
    refine lv_icmp_ge (tgt := 21) hx hb d_Mo_isAllowed_5 (by decide) (fun c5 => ?_) (fun c5 => ?_)
    · have hw := zw_ite_t c5 hw
      refine lv_iconst (v := (0 : Int32)) hx hb d_Mo_isAllowed_21 (by decide) ?_
      refine lv_topi (fun v22 ev22 => ?_)
      have hw := zw_nm_x ev22 hw
      refine lv_istore_n (lv' := [(1, .int v22), (0, .ref (a 0))]) hx hb d_Mo_isAllowed_22 rfl hl (by decide) rfl (fun ls hl => ?_)
      refine lv_iconst (v := (0 : Int32)) hx hb d_Mo_isAllowed_23 (by decide) ?_
      refine lv_topi (fun v24 ev24 => ?_)
      have hw := zw_nm_x ev24 hw
      refine lv_istore_n (lv' := [(2, .int v24), (1, .int v22), (0, .ref (a 0))]) hx hb d_Mo_isAllowed_24 rfl hl (by decide) rfl (fun ls hl => ?_)
      refine (zw_lp3_i (P := fun (x25_1 : Int32) (x25_2 : Int32) (ai25 : Nat → Nat → Int32) => ∀ (H : Heap) (locs : List Loc) (ls : Array Slot), va_P (dC, dI) vwCl (mw cI cJ cG cZ a fi fl ai25 al) H → va_D A (mw cI cJ cG cZ a fi fl ai25 al) → va_S A s.heap H locs → lv_has ls 5 [(0, .ref (a 0)), (1, .int x25_1), (2, .int x25_2)] → W p l e (headSpec ws_Mo_isAllowed ({ frames := 0, cells := 0, slots := 0, locals := 0 })).room s m ([.ref (a 0)] : List Value).toArray below meth c H locs 0 0 (MQ below (va_Qi (fun r (u : zw_Z) => (zw_k_air fi fl al K) r u.1 u.2.1 u.2.2.1 u.2.2.2) (fun u t => zw_E (dC, dI) vwCl [(cI, .int), (cJ, .long), (cG, .array .int), (cZ, .boolean)] A (mw cI cJ cG cZ a u.1 u.2.1 u.2.2.1 u.2.2.2) t) A) ([.ref (a 0)] : List Value).toArray s 0 0 A) (F0 m 25 ls [])) hw (fun L25 x25_1 x25_2 ai25 ih25 hw H locs ls hP hD hS hl => ?_)) H locs ls hP hD hS (lv_sub hl [2, 1, 0] rfl)
      refine lv_iload_n hx hb d_Mo_isAllowed_25 rfl (lv_at hl 2 rfl) ?_
      refine lv_aload_n hx hb d_Mo_isAllowed_26 rfl (lv_at hl 0 rfl) ?_
      refine va_get (D := (dC, dI)) (ci := 7) (v := .int (fi 3)) (C := R_Mo) (T := T_Mo) (N := 36) hx hb ht in_Mo hown hK hP 0 rfl rfl 16 (by decide) (ht _ kw_629) (fun _ h9 => h9) rfl d_Mo_isAllowed_27 ?_
      refine lv_icmp_ge (tgt := 137) hx hb d_Mo_isAllowed_30 (by decide) (fun c30 => ?_) (fun c30 => ?_)
      · have hw := zw_ite_t c30 hw
        refine lv_iconst (v := (1 : Int32)) hx hb d_Mo_isAllowed_137 (by decide) ?_
        exact W.zret (v := (1 : Int32)) (ty := .boolean) hx hb hr rfl (fun t ht hW => ⟨⟨(1 : Int32), (fi, fl, ai25, al), rfl, ⟨rfl, rfl, rfl, hw⟩, by rw [ht]; exact hP, va_K.moved hW.alike hK, hD⟩, hS.F ht⟩) hS.2.2 d_Mo_isAllowed_138
      · have hw := zw_ite_f c30 hw
        refine lv_aload_n hx hb d_Mo_isAllowed_33 rfl (lv_at hl 0 rfl) ?_
        refine va_get (D := (dC, dI)) (ci := 7) (v := .ref (a 10)) (C := R_Mo) (T := T_Mo) (N := 36) hx hb ht in_Mo hown hK hP 0 rfl rfl 12 (by decide) (ht _ kw_625) (fun _ h9 => h9) rfl d_Mo_isAllowed_34 ?_
        refine lv_iload_n hx hb d_Mo_isAllowed_37 rfl (lv_at hl 2 rfl) ?_
        obtain ⟨h38, hw⟩ := hw
        refine va_iald (f := ai25 10) hx hb hK hP 10 0 rfl rfl h38 d_Mo_isAllowed_38 ?_
        refine zw_jn2_i (P := fun (x131_1 : Int32) (ai131 : Nat → Nat → Int32) => ∀ (H : Heap) (locs : List Loc) (ls : Array Slot), va_P (dC, dI) vwCl (mw cI cJ cG cZ a fi fl ai131 al) H → va_D A (mw cI cJ cG cZ a fi fl ai131 al) → va_S A s.heap H locs → lv_has ls 5 [(0, .ref (a 0)), (1, .int x131_1), (2, .int x25_2)] → W p l e (headSpec ws_Mo_isAllowed ({ frames := 0, cells := 0, slots := 0, locals := 0 })).room s m ([.ref (a 0)] : List Value).toArray below meth c H locs 0 0 (MQ below (va_Qi (fun r (u : zw_Z) => (zw_k_air fi fl al K) r u.1 u.2.1 u.2.2.1 u.2.2.2) (fun u t => zw_E (dC, dI) vwCl [(cI, .int), (cJ, .long), (cG, .array .int), (cZ, .boolean)] A (mw cI cJ cG cZ a u.1 u.2.1 u.2.2.1 u.2.2.2) t) A) ([.ref (a 0)] : List Value).toArray s 0 0 A) (F0 m 131 ls [])) hw (fun x131_1 ai131 hw H locs ls hP hD hS hl => ?_) (fun J131 hj131 hw => ?_)
        · obtain ⟨v131, ev131⟩ : ∃ y : Int32, y = x25_2 + (1 : Int32) := ⟨_, rfl⟩
          refine lv_iinc (v := v131) (lv' := [(2, .int v131), (0, .ref (a 0)), (1, .int x131_1)]) hx hb d_Mo_isAllowed_131 hl (k := 2) rfl (by rw [ev131]; rfl) (by decide) rfl (fun ls hl => ?_)
          have hw := zw_nm_x ev131 hw
          refine lv_goto (tgt := 25) hx hb d_Mo_isAllowed_134 (by decide) ?_
          exact (ih25 x131_1 v131 ai131 hw) H locs ls hP hD hS (lv_sub hl [1, 2, 0] rfl)
        · refine lv_if_ne (tgt := 105) hx hb d_Mo_isAllowed_39 (by decide) (fun c39 => ?_) (fun c39 => ?_)
          · have hw := zw_ite_f c39 hw
            refine lv_aload_n hx hb d_Mo_isAllowed_105 rfl (lv_at hl 0 rfl) ?_
            refine va_get (D := (dC, dI)) (ci := 7) (v := .ref (a 10)) (C := R_Mo) (T := T_Mo) (N := 36) hx hb ht in_Mo hown hK hP 0 rfl rfl 12 (by decide) (ht _ kw_625) (fun _ h9 => h9) rfl d_Mo_isAllowed_106 ?_
            refine lv_iload_n hx hb d_Mo_isAllowed_109 rfl (lv_at hl 2 rfl) ?_
            obtain ⟨h110, hw⟩ := hw
            refine va_iald (f := ai25 10) hx hb hK hP 10 0 rfl rfl h110 d_Mo_isAllowed_110 ?_
            refine lv_iconst (v := (1 : Int32)) hx hb d_Mo_isAllowed_111 (by decide) ?_
            refine lv_icmp_ne (tgt := 131) hx hb d_Mo_isAllowed_112 (by decide) (fun c112 => ?_) (fun c112 => ?_)
            · have hw := zw_ite_f c112 hw
              exact (hj131 x25_1 ai25 hw) H locs ls hP hD hS (lv_sub hl [0, 1, 2] rfl)
            · have hw := zw_ite_t c112 hw
              refine lv_aload_n hx hb d_Mo_isAllowed_115 rfl (lv_at hl 0 rfl) ?_
              refine va_get (D := (dC, dI)) (ci := 7) (v := .ref (a 27)) (C := R_Mo) (T := T_Mo) (N := 36) hx hb ht in_Mo hown hK hP 0 rfl rfl 35 (by decide) (ht _ kw_648) (fun _ h9 => h9) rfl d_Mo_isAllowed_116 ?_
              refine lv_aload_n hx hb d_Mo_isAllowed_119 rfl (lv_at hl 0 rfl) ?_
              refine va_get (D := (dC, dI)) (ci := 7) (v := .ref (a 11)) (C := R_Mo) (T := T_Mo) (N := 36) hx hb ht in_Mo hown hK hP 0 rfl rfl 13 (by decide) (ht _ kw_626) (fun _ h9 => h9) rfl d_Mo_isAllowed_120 ?_
              refine lv_iload_n hx hb d_Mo_isAllowed_123 rfl (lv_at hl 2 rfl) ?_
              obtain ⟨h124, hw⟩ := hw
              refine va_iald (f := ai25 11) hx hb hK hP 11 0 rfl rfl h124 d_Mo_isAllowed_124 ?_
              obtain ⟨h125, hw⟩ := hw
              refine va_zald (f := ai25 27) hx hb hK hP 27 3 rfl rfl h125 d_Mo_isAllowed_125 ?_
              refine lv_if_ne (tgt := 131) hx hb d_Mo_isAllowed_126 (by decide) (fun c126 => ?_) (fun c126 => ?_)
              · have hw := zw_ite_f c126 hw
                exact (hj131 x25_1 ai25 hw) H locs ls hP hD hS (lv_sub hl [0, 1, 2] rfl)
              · have hw := zw_ite_t c126 hw
                refine lv_iconst (v := (0 : Int32)) hx hb d_Mo_isAllowed_129 (by decide) ?_
                exact W.zret (v := (0 : Int32)) (ty := .boolean) hx hb hr rfl (fun t ht hW => ⟨⟨(0 : Int32), (fi, fl, ai25, al), rfl, ⟨rfl, rfl, rfl, hw⟩, by rw [ht]; exact hP, va_K.moved hW.alike hK, hD⟩, hS.F ht⟩) hS.2.2 d_Mo_isAllowed_130
          · have hw := zw_ite_t c39 hw
            refine lv_aload_n hx hb d_Mo_isAllowed_42 rfl (lv_at hl 0 rfl) ?_
            refine va_get (D := (dC, dI)) (ci := 7) (v := .ref (a 20)) (C := R_Mo) (T := T_Mo) (N := 36) hx hb ht in_Mo hown hK hP 0 rfl rfl 27 (by decide) (ht _ kw_640) (fun _ h9 => h9) rfl d_Mo_isAllowed_43 ?_
            refine lv_iload_n hx hb d_Mo_isAllowed_46 rfl (lv_at hl 1 rfl) ?_
            obtain ⟨h47, hw⟩ := hw
            refine va_iald (f := ai25 20) hx hb hK hP 20 0 rfl rfl h47 d_Mo_isAllowed_47 ?_
            refine lv_topi (fun v48 ev48 => ?_)
            have hw := zw_nm_x ev48 hw
            refine lv_istore_n (lv' := [(3, .int v48), (0, .ref (a 0)), (1, .int x25_1), (2, .int x25_2)]) hx hb d_Mo_isAllowed_48 rfl hl (by decide) rfl (fun ls hl => ?_)
            obtain ⟨v49, ev49⟩ : ∃ y : Int32, y = x25_1 + (1 : Int32) := ⟨_, rfl⟩
            refine lv_iinc (v := v49) (lv' := [(1, .int v49), (3, .int v48), (0, .ref (a 0)), (2, .int x25_2)]) hx hb d_Mo_isAllowed_49 hl (k := 2) rfl (by rw [ev49]; rfl) (by decide) rfl (fun ls hl => ?_)
            have hw := zw_nm_x ev49 hw
            refine lv_iconst (v := (0 : Int32)) hx hb d_Mo_isAllowed_52 (by decide) ?_
            refine lv_topi (fun v53 ev53 => ?_)
            have hw := zw_nm_x ev53 hw
            refine lv_istore (lv' := [(4, .int v53), (1, .int v49), (3, .int v48), (0, .ref (a 0)), (2, .int x25_2)]) hx hb d_Mo_isAllowed_53 hl (by decide) rfl (fun ls hl => ?_)
            refine (zw_lp1_i (P := fun (x55_4 : Int32) => ∀ (H : Heap) (locs : List Loc) (ls : Array Slot), va_P (dC, dI) vwCl (mw cI cJ cG cZ a fi fl ai25 al) H → va_D A (mw cI cJ cG cZ a fi fl ai25 al) → va_S A s.heap H locs → lv_has ls 5 [(0, .ref (a 0)), (1, .int v49), (2, .int x25_2), (3, .int v48), (4, .int x55_4)] → W p l e (headSpec ws_Mo_isAllowed ({ frames := 0, cells := 0, slots := 0, locals := 0 })).room s m ([.ref (a 0)] : List Value).toArray below meth c H locs 0 0 (MQ below (va_Qi (fun r (u : zw_Z) => (zw_k_air fi fl al K) r u.1 u.2.1 u.2.2.1 u.2.2.2) (fun u t => zw_E (dC, dI) vwCl [(cI, .int), (cJ, .long), (cG, .array .int), (cZ, .boolean)] A (mw cI cJ cG cZ a u.1 u.2.1 u.2.2.1 u.2.2.2) t) A) ([.ref (a 0)] : List Value).toArray s 0 0 A) (F0 m 55 ls [])) hw (fun L55 x55_4 ih55 hw H locs ls hP hD hS hl => ?_)) H locs ls hP hD hS (lv_sub hl [3, 1, 4, 2, 0] rfl)
            refine lv_iload hx hb d_Mo_isAllowed_55 (lv_at hl 4 rfl) ?_
            refine lv_bipush (v := (6 : Int32)) hx hb d_Mo_isAllowed_57 (by decide) ?_
            refine lv_icmp_ge (tgt := 95) hx hb d_Mo_isAllowed_59 (by decide) (fun c59 => ?_) (fun c59 => ?_)
            · have hw := zw_ite_t c59 hw
              refine lv_aload_n hx hb d_Mo_isAllowed_95 rfl (lv_at hl 0 rfl) ?_
              refine va_get (D := (dC, dI)) (ci := 7) (v := .ref (a 27)) (C := R_Mo) (T := T_Mo) (N := 36) hx hb ht in_Mo hown hK hP 0 rfl rfl 35 (by decide) (ht _ kw_648) (fun _ h9 => h9) rfl d_Mo_isAllowed_96 ?_
              refine lv_iload_n hx hb d_Mo_isAllowed_99 rfl (lv_at hl 3 rfl) ?_
              refine lv_iconst (v := (1 : Int32)) hx hb d_Mo_isAllowed_100 (by decide) ?_
              obtain ⟨h101, hw⟩ := hw
              refine va_zast (f := ai25 27) hx hb hK hP hD hS 27 3 rfl rfl h101 d_Mo_isAllowed_101 (fun H locs hP hD hS => ?_)
              have hP := mwpai_27 hP
              have hD := mwdai_27 hD
              obtain ⟨ai_101, eai_101⟩ : ∃ z, z = va_up ai25 27 (upd (ai25 27) v48.toNatClampNeg (vp_nar .boolean (1 : Int32))) := ⟨_, rfl⟩
              rw [← eai_101] at hP hD
              have hw := zw_nm_x eai_101 hw
              refine lv_goto (tgt := 131) hx hb d_Mo_isAllowed_102 (by decide) ?_
              exact (hj131 v49 ai_101 hw) H locs ls hP hD hS (lv_sub hl [0, 1, 2] rfl)
            · have hw := zw_ite_f c59 hw
              refine lv_aload_n hx hb d_Mo_isAllowed_62 rfl (lv_at hl 0 rfl) ?_
              refine va_get (D := (dC, dI)) (ci := 7) (v := .ref (a 8)) (C := R_Mo) (T := T_Mo) (N := 36) hx hb ht in_Mo hown hK hP 0 rfl rfl 9 (by decide) (ht _ kw_622) (fun _ h9 => h9) rfl d_Mo_isAllowed_63 ?_
              refine lv_bipush (v := (6 : Int32)) hx hb d_Mo_isAllowed_66 (by decide) ?_
              refine lv_iload hx hb d_Mo_isAllowed_68 (lv_at hl 4 rfl) ?_
              refine lv_imul hx hb d_Mo_isAllowed_70 ?_
              refine lv_iload_n hx hb d_Mo_isAllowed_71 rfl (lv_at hl 3 rfl) ?_
              refine lv_iadd hx hb d_Mo_isAllowed_72 ?_
              obtain ⟨h73, hw⟩ := hw
              refine va_zald (f := ai25 8) hx hb hK hP 8 3 rfl rfl h73 d_Mo_isAllowed_73 ?_
              refine zw_jn0_i (P := ∀ (H : Heap) (locs : List Loc) (ls : Array Slot), va_P (dC, dI) vwCl (mw cI cJ cG cZ a fi fl ai25 al) H → va_D A (mw cI cJ cG cZ a fi fl ai25 al) → va_S A s.heap H locs → lv_has ls 5 [(0, .ref (a 0)), (1, .int v49), (2, .int x25_2), (3, .int v48), (4, .int x55_4)] → W p l e (headSpec ws_Mo_isAllowed ({ frames := 0, cells := 0, slots := 0, locals := 0 })).room s m ([.ref (a 0)] : List Value).toArray below meth c H locs 0 0 (MQ below (va_Qi (fun r (u : zw_Z) => (zw_k_air fi fl al K) r u.1 u.2.1 u.2.2.1 u.2.2.2) (fun u t => zw_E (dC, dI) vwCl [(cI, .int), (cJ, .long), (cG, .array .int), (cZ, .boolean)] A (mw cI cJ cG cZ a u.1 u.2.1 u.2.2.1 u.2.2.2) t) A) ([.ref (a 0)] : List Value).toArray s 0 0 A) (F0 m 89 ls [])) hw (fun hw H locs ls hP hD hS hl => ?_) (fun J89 hj89 hw => ?_)
              · obtain ⟨v89, ev89⟩ : ∃ y : Int32, y = x55_4 + (1 : Int32) := ⟨_, rfl⟩
                refine lv_iinc (v := v89) (lv' := [(4, .int v89), (0, .ref (a 0)), (1, .int v49), (2, .int x25_2), (3, .int v48)]) hx hb d_Mo_isAllowed_89 hl (k := 4) rfl (by rw [ev89]; rfl) (by decide) rfl (fun ls hl => ?_)
                have hw := zw_nm_x ev89 hw
                refine lv_goto (tgt := 55) hx hb d_Mo_isAllowed_92 (by decide) ?_
                exact (ih55 v89 hw) H locs ls hP hD hS (lv_sub hl [1, 2, 3, 4, 0] rfl)
              · refine lv_if_eq (tgt := 89) hx hb d_Mo_isAllowed_74 (by decide) (fun c74 => ?_) (fun c74 => ?_)
                · have hw := zw_ite_t c74 hw
                  exact (hj89  hw) H locs ls hP hD hS (lv_sub hl [0, 1, 2, 3, 4] rfl)
                · have hw := zw_ite_f c74 hw
                  refine lv_aload_n hx hb d_Mo_isAllowed_77 rfl (lv_at hl 0 rfl) ?_
                  refine va_get (D := (dC, dI)) (ci := 7) (v := .ref (a 27)) (C := R_Mo) (T := T_Mo) (N := 36) hx hb ht in_Mo hown hK hP 0 rfl rfl 35 (by decide) (ht _ kw_648) (fun _ h9 => h9) rfl d_Mo_isAllowed_78 ?_
                  refine lv_iload hx hb d_Mo_isAllowed_81 (lv_at hl 4 rfl) ?_
                  obtain ⟨h83, hw⟩ := hw
                  refine va_zald (f := ai25 27) hx hb hK hP 27 3 rfl rfl h83 d_Mo_isAllowed_83 ?_
                  refine lv_if_ne (tgt := 89) hx hb d_Mo_isAllowed_84 (by decide) (fun c84 => ?_) (fun c84 => ?_)
                  · have hw := zw_ite_f c84 hw
                    exact (hj89  hw) H locs ls hP hD hS (lv_sub hl [0, 1, 2, 3, 4] rfl)
                  · have hw := zw_ite_t c84 hw
                    refine lv_iconst (v := (0 : Int32)) hx hb d_Mo_isAllowed_87 (by decide) ?_
                    exact W.zret (v := (0 : Int32)) (ty := .boolean) hx hb hr rfl (fun t ht hW => ⟨⟨(0 : Int32), (fi, fl, ai25, al), rfl, ⟨rfl, rfl, rfl, hw⟩, by rw [ht]; exact hP, va_K.moved hW.alike hK, hD⟩, hS.F ht⟩) hS.2.2 d_Mo_isAllowed_88
    · have hw := zw_ite_f c5 hw
      refine lv_aload_n hx hb d_Mo_isAllowed_8 rfl (lv_at hl 0 rfl) ?_
      refine va_get (D := (dC, dI)) (ci := 7) (v := .ref (a 27)) (C := R_Mo) (T := T_Mo) (N := 36) hx hb ht in_Mo hown hK hP 0 rfl rfl 35 (by decide) (ht _ kw_648) (fun _ h9 => h9) rfl d_Mo_isAllowed_9 ?_
      refine lv_iload_n hx hb d_Mo_isAllowed_12 rfl (lv_at hl 1 rfl) ?_
      refine lv_iconst (v := (0 : Int32)) hx hb d_Mo_isAllowed_13 (by decide) ?_
      obtain ⟨h14, hw⟩ := hw
      refine va_zast (f := ai2 27) hx hb hK hP hD hS 27 3 rfl rfl h14 d_Mo_isAllowed_14 (fun H locs hP hD hS => ?_)
      have hP := mwpai_27 hP
      have hD := mwdai_27 hD
      obtain ⟨ai_14, eai_14⟩ : ∃ z, z = va_up ai2 27 (upd (ai2 27) x2_1.toNatClampNeg (vp_nar .boolean (0 : Int32))) := ⟨_, rfl⟩
      rw [← eai_14] at hP hD
      have hw := zw_nm_x eai_14 hw
      obtain ⟨v15, ev15⟩ : ∃ y : Int32, y = x2_1 + (1 : Int32) := ⟨_, rfl⟩
      refine lv_iinc (v := v15) (lv' := [(1, .int v15), (0, .ref (a 0))]) hx hb d_Mo_isAllowed_15 hl (k := 1) rfl (by rw [ev15]; rfl) (by decide) rfl (fun ls hl => ?_)
      have hw := zw_nm_x ev15 hw
      refine lv_goto (tgt := 2) hx hb d_Mo_isAllowed_18 (by decide) ?_
      exact (ih2 v15 ai_14 hw) H locs ls hP hD hS (lv_sub hl [1, 0] rfl)
  rw [hH, hlo] at key
  exact key
def Mo_nextRow_w (fi : Nat → Int32) (fl : Nat → Int64) (ai : Nat → Nat → Int32) (al : Nat → Nat → Int64) (K : Int32 → (Nat → Nat → Int32) → Prop) : Prop :=
  zw_nm ((fi 8) - (2 : Int32)) (fun (v6 : Int32) =>
  zw_lp1 (fun L7 (x7_1 : Int32) =>
  zw_jn0 (
  if 0 ≤ x7_1 then (
    zw_nm ((fi 8) - (1 : Int32)) (fun (v46 : Int32) =>
    zw_lp1 (fun L47 (x47_2 : Int32) =>
    vp_in x47_2 6 ∧ (
    vp_in x7_1 6 ∧ (
    if (ai 20 x7_1.toNatClampNeg) ≤ (ai 20 x47_2.toNatClampNeg) then (
      vp_in x7_1 6 ∧ (
      zw_nm (ai 20 x7_1.toNatClampNeg) (fun (v74 : Int32) =>
      vp_in x47_2 6 ∧ (
      vp_in x7_1 6 ∧ (zw_nm (va_up ai 20 (upd (ai 20) x7_1.toNatClampNeg (ai 20 x47_2.toNatClampNeg))) (fun (ai_86 : Nat → Nat → Int32) =>
      vp_in x47_2 6 ∧ (zw_nm (va_up ai_86 20 (upd (ai_86 20) x47_2.toNatClampNeg v74)) (fun (ai_93 : Nat → Nat → Int32) =>
      zw_nm (x7_1 + (1 : Int32)) (fun (v97 : Int32) =>
      zw_nm ((fi 8) - (1 : Int32)) (fun (v105 : Int32) =>
      zw_lp3 (fun L107 (x107_4 : Int32) (x107_5 : Int32) (ai107 : Nat → Nat → Int32) =>
      if x107_5 ≤ x107_4 then (
        K (1 : Int32) ai107)
      else (
        vp_in x107_4 6 ∧ (
        zw_nm (ai107 20 x107_4.toNatClampNeg) (fun (v121 : Int32) =>
        vp_in x107_5 6 ∧ (
        vp_in x107_4 6 ∧ (zw_nm (va_up ai107 20 (upd (ai107 20) x107_4.toNatClampNeg (ai107 20 x107_5.toNatClampNeg))) (fun (ai_135 : Nat → Nat → Int32) =>
        vp_in x107_5 6 ∧ (zw_nm (va_up ai_135 20 (upd (ai_135 20) x107_5.toNatClampNeg v121)) (fun (ai_143 : Nat → Nat → Int32) =>
        zw_nm (x107_4 + (1 : Int32)) (fun (v144 : Int32) =>
        zw_nm (x107_5 + (-1 : Int32)) (fun (v147 : Int32) =>
        L107 v144 v147 ai_143))))))))))) v97 v105 ai_93))))))))))
    else (
      zw_nm (x47_2 + (-1 : Int32)) (fun (v62 : Int32) =>
      L47 v62))))) v46))
  else (
    K (0 : Int32) ai)) (fun J34 =>
  if x7_1 < 0 then (
    J34)
  else (
    vp_in x7_1 6 ∧ (
    vp_in (x7_1 + (1 : Int32)) 6 ∧ (
    if (ai 20 x7_1.toNatClampNeg) ≤ (ai 20 (x7_1 + (1 : Int32)).toNatClampNeg) then (
      J34)
    else (
      zw_nm (x7_1 + (-1 : Int32)) (fun (v28 : Int32) =>
      L7 v28))))))) v6)
theorem d_Mo_nextRow_0 : decode b_Mo_nextRow 0 = .ok (.aload_n 0, 1) := by decide +kernel
theorem d_Mo_nextRow_1 : decode b_Mo_nextRow 1 = .ok (.getfield 165, 3) := by decide +kernel
theorem d_Mo_nextRow_4 : decode b_Mo_nextRow 4 = .ok (.iconst 2, 1) := by decide +kernel
theorem d_Mo_nextRow_5 : decode b_Mo_nextRow 5 = .ok (.isub, 1) := by decide +kernel
theorem d_Mo_nextRow_6 : decode b_Mo_nextRow 6 = .ok (.istore_n 1, 1) := by decide +kernel
theorem d_Mo_nextRow_7 : decode b_Mo_nextRow 7 = .ok (.iload_n 1, 1) := by decide +kernel
theorem d_Mo_nextRow_8 : decode b_Mo_nextRow 8 = .ok (.ifCond .lt (26), 3) := by decide +kernel
theorem d_Mo_nextRow_11 : decode b_Mo_nextRow 11 = .ok (.aload_n 0, 1) := by decide +kernel
theorem d_Mo_nextRow_12 : decode b_Mo_nextRow 12 = .ok (.getfield 76, 3) := by decide +kernel
theorem d_Mo_nextRow_15 : decode b_Mo_nextRow 15 = .ok (.iload_n 1, 1) := by decide +kernel
theorem d_Mo_nextRow_16 : decode b_Mo_nextRow 16 = .ok (.iaload, 1) := by decide +kernel
theorem d_Mo_nextRow_17 : decode b_Mo_nextRow 17 = .ok (.aload_n 0, 1) := by decide +kernel
theorem d_Mo_nextRow_18 : decode b_Mo_nextRow 18 = .ok (.getfield 76, 3) := by decide +kernel
theorem d_Mo_nextRow_21 : decode b_Mo_nextRow 21 = .ok (.iload_n 1, 1) := by decide +kernel
theorem d_Mo_nextRow_22 : decode b_Mo_nextRow 22 = .ok (.iconst 1, 1) := by decide +kernel
theorem d_Mo_nextRow_23 : decode b_Mo_nextRow 23 = .ok (.iadd, 1) := by decide +kernel
theorem d_Mo_nextRow_24 : decode b_Mo_nextRow 24 = .ok (.iaload, 1) := by decide +kernel
theorem d_Mo_nextRow_25 : decode b_Mo_nextRow 25 = .ok (.if_icmp .le (9), 3) := by decide +kernel
theorem d_Mo_nextRow_28 : decode b_Mo_nextRow 28 = .ok (.iinc 1 (-1), 3) := by decide +kernel
theorem d_Mo_nextRow_31 : decode b_Mo_nextRow 31 = .ok (.goto (-24), 3) := by decide +kernel
theorem d_Mo_nextRow_34 : decode b_Mo_nextRow 34 = .ok (.iload_n 1, 1) := by decide +kernel
theorem d_Mo_nextRow_35 : decode b_Mo_nextRow 35 = .ok (.ifCond .ge (5), 3) := by decide +kernel
theorem d_Mo_nextRow_38 : decode b_Mo_nextRow 38 = .ok (.iconst 0, 1) := by decide +kernel
theorem d_Mo_nextRow_39 : decode b_Mo_nextRow 39 = .ok (.ireturn, 1) := by decide +kernel
theorem d_Mo_nextRow_40 : decode b_Mo_nextRow 40 = .ok (.aload_n 0, 1) := by decide +kernel
theorem d_Mo_nextRow_41 : decode b_Mo_nextRow 41 = .ok (.getfield 165, 3) := by decide +kernel
theorem d_Mo_nextRow_44 : decode b_Mo_nextRow 44 = .ok (.iconst 1, 1) := by decide +kernel
theorem d_Mo_nextRow_45 : decode b_Mo_nextRow 45 = .ok (.isub, 1) := by decide +kernel
theorem d_Mo_nextRow_46 : decode b_Mo_nextRow 46 = .ok (.istore_n 2, 1) := by decide +kernel
theorem d_Mo_nextRow_47 : decode b_Mo_nextRow 47 = .ok (.aload_n 0, 1) := by decide +kernel
theorem d_Mo_nextRow_48 : decode b_Mo_nextRow 48 = .ok (.getfield 76, 3) := by decide +kernel
theorem d_Mo_nextRow_51 : decode b_Mo_nextRow 51 = .ok (.iload_n 2, 1) := by decide +kernel
theorem d_Mo_nextRow_52 : decode b_Mo_nextRow 52 = .ok (.iaload, 1) := by decide +kernel
theorem d_Mo_nextRow_53 : decode b_Mo_nextRow 53 = .ok (.aload_n 0, 1) := by decide +kernel
theorem d_Mo_nextRow_54 : decode b_Mo_nextRow 54 = .ok (.getfield 76, 3) := by decide +kernel
theorem d_Mo_nextRow_57 : decode b_Mo_nextRow 57 = .ok (.iload_n 1, 1) := by decide +kernel
theorem d_Mo_nextRow_58 : decode b_Mo_nextRow 58 = .ok (.iaload, 1) := by decide +kernel
theorem d_Mo_nextRow_59 : decode b_Mo_nextRow 59 = .ok (.if_icmp .ge (9), 3) := by decide +kernel
theorem d_Mo_nextRow_62 : decode b_Mo_nextRow 62 = .ok (.iinc 2 (-1), 3) := by decide +kernel
theorem d_Mo_nextRow_65 : decode b_Mo_nextRow 65 = .ok (.goto (-18), 3) := by decide +kernel
theorem d_Mo_nextRow_68 : decode b_Mo_nextRow 68 = .ok (.aload_n 0, 1) := by decide +kernel
theorem d_Mo_nextRow_69 : decode b_Mo_nextRow 69 = .ok (.getfield 76, 3) := by decide +kernel
theorem d_Mo_nextRow_72 : decode b_Mo_nextRow 72 = .ok (.iload_n 1, 1) := by decide +kernel
theorem d_Mo_nextRow_73 : decode b_Mo_nextRow 73 = .ok (.iaload, 1) := by decide +kernel
theorem d_Mo_nextRow_74 : decode b_Mo_nextRow 74 = .ok (.istore_n 3, 1) := by decide +kernel
theorem d_Mo_nextRow_75 : decode b_Mo_nextRow 75 = .ok (.aload_n 0, 1) := by decide +kernel
theorem d_Mo_nextRow_76 : decode b_Mo_nextRow 76 = .ok (.getfield 76, 3) := by decide +kernel
theorem d_Mo_nextRow_79 : decode b_Mo_nextRow 79 = .ok (.iload_n 1, 1) := by decide +kernel
theorem d_Mo_nextRow_80 : decode b_Mo_nextRow 80 = .ok (.aload_n 0, 1) := by decide +kernel
theorem d_Mo_nextRow_81 : decode b_Mo_nextRow 81 = .ok (.getfield 76, 3) := by decide +kernel
theorem d_Mo_nextRow_84 : decode b_Mo_nextRow 84 = .ok (.iload_n 2, 1) := by decide +kernel
theorem d_Mo_nextRow_85 : decode b_Mo_nextRow 85 = .ok (.iaload, 1) := by decide +kernel
theorem d_Mo_nextRow_86 : decode b_Mo_nextRow 86 = .ok (.iastore, 1) := by decide +kernel
theorem d_Mo_nextRow_87 : decode b_Mo_nextRow 87 = .ok (.aload_n 0, 1) := by decide +kernel
theorem d_Mo_nextRow_88 : decode b_Mo_nextRow 88 = .ok (.getfield 76, 3) := by decide +kernel
theorem d_Mo_nextRow_91 : decode b_Mo_nextRow 91 = .ok (.iload_n 2, 1) := by decide +kernel
theorem d_Mo_nextRow_92 : decode b_Mo_nextRow 92 = .ok (.iload_n 3, 1) := by decide +kernel
theorem d_Mo_nextRow_93 : decode b_Mo_nextRow 93 = .ok (.iastore, 1) := by decide +kernel
theorem d_Mo_nextRow_94 : decode b_Mo_nextRow 94 = .ok (.iload_n 1, 1) := by decide +kernel
theorem d_Mo_nextRow_95 : decode b_Mo_nextRow 95 = .ok (.iconst 1, 1) := by decide +kernel
theorem d_Mo_nextRow_96 : decode b_Mo_nextRow 96 = .ok (.iadd, 1) := by decide +kernel
theorem d_Mo_nextRow_97 : decode b_Mo_nextRow 97 = .ok (.istore 4, 2) := by decide +kernel
theorem d_Mo_nextRow_99 : decode b_Mo_nextRow 99 = .ok (.aload_n 0, 1) := by decide +kernel
theorem d_Mo_nextRow_100 : decode b_Mo_nextRow 100 = .ok (.getfield 165, 3) := by decide +kernel
theorem d_Mo_nextRow_103 : decode b_Mo_nextRow 103 = .ok (.iconst 1, 1) := by decide +kernel
theorem d_Mo_nextRow_104 : decode b_Mo_nextRow 104 = .ok (.isub, 1) := by decide +kernel
theorem d_Mo_nextRow_105 : decode b_Mo_nextRow 105 = .ok (.istore 5, 2) := by decide +kernel
theorem d_Mo_nextRow_107 : decode b_Mo_nextRow 107 = .ok (.iload 4, 2) := by decide +kernel
theorem d_Mo_nextRow_109 : decode b_Mo_nextRow 109 = .ok (.iload 5, 2) := by decide +kernel
theorem d_Mo_nextRow_111 : decode b_Mo_nextRow 111 = .ok (.if_icmp .ge (42), 3) := by decide +kernel
theorem d_Mo_nextRow_114 : decode b_Mo_nextRow 114 = .ok (.aload_n 0, 1) := by decide +kernel
theorem d_Mo_nextRow_115 : decode b_Mo_nextRow 115 = .ok (.getfield 76, 3) := by decide +kernel
theorem d_Mo_nextRow_118 : decode b_Mo_nextRow 118 = .ok (.iload 4, 2) := by decide +kernel
theorem d_Mo_nextRow_120 : decode b_Mo_nextRow 120 = .ok (.iaload, 1) := by decide +kernel
theorem d_Mo_nextRow_121 : decode b_Mo_nextRow 121 = .ok (.istore_n 3, 1) := by decide +kernel
theorem d_Mo_nextRow_122 : decode b_Mo_nextRow 122 = .ok (.aload_n 0, 1) := by decide +kernel
theorem d_Mo_nextRow_123 : decode b_Mo_nextRow 123 = .ok (.getfield 76, 3) := by decide +kernel
theorem d_Mo_nextRow_126 : decode b_Mo_nextRow 126 = .ok (.iload 4, 2) := by decide +kernel
theorem d_Mo_nextRow_128 : decode b_Mo_nextRow 128 = .ok (.aload_n 0, 1) := by decide +kernel
theorem d_Mo_nextRow_129 : decode b_Mo_nextRow 129 = .ok (.getfield 76, 3) := by decide +kernel
theorem d_Mo_nextRow_132 : decode b_Mo_nextRow 132 = .ok (.iload 5, 2) := by decide +kernel
theorem d_Mo_nextRow_134 : decode b_Mo_nextRow 134 = .ok (.iaload, 1) := by decide +kernel
theorem d_Mo_nextRow_135 : decode b_Mo_nextRow 135 = .ok (.iastore, 1) := by decide +kernel
theorem d_Mo_nextRow_136 : decode b_Mo_nextRow 136 = .ok (.aload_n 0, 1) := by decide +kernel
theorem d_Mo_nextRow_137 : decode b_Mo_nextRow 137 = .ok (.getfield 76, 3) := by decide +kernel
theorem d_Mo_nextRow_140 : decode b_Mo_nextRow 140 = .ok (.iload 5, 2) := by decide +kernel
theorem d_Mo_nextRow_142 : decode b_Mo_nextRow 142 = .ok (.iload_n 3, 1) := by decide +kernel
theorem d_Mo_nextRow_143 : decode b_Mo_nextRow 143 = .ok (.iastore, 1) := by decide +kernel
theorem d_Mo_nextRow_144 : decode b_Mo_nextRow 144 = .ok (.iinc 4 (1), 3) := by decide +kernel
theorem d_Mo_nextRow_147 : decode b_Mo_nextRow 147 = .ok (.iinc 5 (-1), 3) := by decide +kernel
theorem d_Mo_nextRow_150 : decode b_Mo_nextRow 150 = .ok (.goto (-43), 3) := by decide +kernel
theorem d_Mo_nextRow_153 : decode b_Mo_nextRow 153 = .ok (.iconst 1, 1) := by decide +kernel
theorem d_Mo_nextRow_154 : decode b_Mo_nextRow 154 = .ok (.ireturn, 1) := by decide +kernel
set_option maxHeartbeats 4000000 in
set_option maxRecDepth 100000 in
theorem c_Mo_nextRow (l : Launch) (dC : Nat → ClassId) (dI : Nat → Nat → Nat) (cI cJ cG cZ : ClassId) (a : Nat → Nat) (sz : Nat) (fi : Nat → Int32) (fl : Nat → Int64) (ai : Nat → Nat → Int32) (al : Nat → Nat → Int64) (K : Int32 → (Nat → Nat → Int32) → Prop) (hw : Mo_nextRow_w fi fl ai al K) : Met l y_Mo_nextRow ws_Mo_nextRow ({ frames := 0, cells := 0, slots := 0, locals := 0 }) (va_Pc [.ref (a 0)] (zw_Bw (dC, dI) vwCl [(cI, .int), (cJ, .long), (cG, .array .int), (cZ, .boolean)] (mw cI cJ cG cZ a fi fl ai al) sz)) (va_Qi (fun r (u : zw_Z) => (zw_k_air fi fl al K) r u.1 u.2.1 u.2.2.1 u.2.2.2) (fun u t => zw_E (dC, dI) vwCl [(cI, .int), (cJ, .long), (cG, .array .int), (cZ, .boolean)] (va_A (mw cI cJ cG cZ a fi fl ai al) sz) (mw cI cJ cG cZ a u.1 u.2.1 u.2.2.1 u.2.2.2) t) (va_A (mw cI cJ cG cZ a fi fl ai al) sz)) 0 0 (va_A (mw cI cJ cG cZ a fi fl ai al) sz) := by
  refine Met.ofW (cc := b_Mo_nextRow) (maxL := 6) (ret := (Option.some FieldType.boolean)) (by decide) rfl ?_
  intro p e s m args below meth c s₁ B hml hv
  obtain ⟨rfl, hsz, hP, hK, hD0, hN⟩ := hv
  have hx := B.exec
  have hb := B.bytes
  have hr := B.returns
  have hts := atoms_spec (ws := ws_Mo_nextRow) B.pre
  have ht : ∀ w ∈ zw_tbl, w.before _ s = true := fun w h => hts w (List.mem_cons_of_mem _ h)
  have hown : s.vm.findClass R_Mo = some m.cls := findClass_of_methodNamed B.named
  have hlocks := B.notSynchronized
  subst hsz
  have hD := hD0.self (sz := s.heap.size)
  generalize hAe : va_A (mw cI cJ cG cZ a fi fl ai al) s.heap.size = A at hD ⊢
  have hA : ∀ q : Nat, s.heap.size ≤ q → A q := fun q h => by rw [← hAe]; exact Or.inr h
  have hS : va_S A s.heap s.heap [] := va_S.rf
  have hl := lv_entry ([.ref (a 0)] : List Value) (n := 6) (Nat.le_of_ble_eq_true rfl)
  rw [lg_entry_eq]
  generalize (lg_sl ([.ref (a 0)] : List Value) ++ List.replicate (6 - (lg_sl ([.ref (a 0)] : List Value)).length) Slot.unset).toArray = ls at hl ⊢
  have hl : lv_has ls 6 [(0, .ref (a 0))] := hl
  unfold Mo_nextRow_w at hw
  obtain ⟨H, hH⟩ : ∃ H, H = s.heap := ⟨_, rfl⟩
  obtain ⟨locs, hlo⟩ : ∃ q : List Loc, q = [] := ⟨_, rfl⟩
  have hP : va_P (dC, dI) vwCl (mw cI cJ cG cZ a fi fl ai al) H := by rw [hH]; exact hP
  have hS : va_S A s.heap H locs := by rw [hH, hlo]; exact hS
  have key : W p l e (headSpec ws_Mo_nextRow ({ frames := 0, cells := 0, slots := 0, locals := 0 })).room s m ([.ref (a 0)] : List Value).toArray below meth c H locs 0 0 (MQ below (va_Qi (fun r (u : zw_Z) => (zw_k_air fi fl al K) r u.1 u.2.1 u.2.2.1 u.2.2.2) (fun u t => zw_E (dC, dI) vwCl [(cI, .int), (cJ, .long), (cG, .array .int), (cZ, .boolean)] A (mw cI cJ cG cZ a u.1 u.2.1 u.2.2.1 u.2.2.2) t) A) ([.ref (a 0)] : List Value).toArray s 0 0 A) (F0 m 0 ls []) := by
    refine lv_aload_n hx hb d_Mo_nextRow_0 rfl (lv_at hl 0 rfl) ?_
    refine va_get (D := (dC, dI)) (ci := 7) (v := .int (fi 8)) (C := R_Mo) (T := T_Mo) (N := 36) hx hb ht in_Mo hown hK hP 0 rfl rfl 28 (by decide) (ht _ kw_641) (fun _ h9 => h9) rfl d_Mo_nextRow_1 ?_
    refine lv_iconst (v := (2 : Int32)) hx hb d_Mo_nextRow_4 (by decide) ?_
    refine lv_isub hx hb d_Mo_nextRow_5 ?_
    refine lv_topi (fun v6 ev6 => ?_)
    have hw := zw_nm_x ev6 hw
    refine lv_istore_n (lv' := [(1, .int v6), (0, .ref (a 0))]) hx hb d_Mo_nextRow_6 rfl hl (by decide) rfl (fun ls hl => ?_)
    refine (zw_lp1_i (P := fun (x7_1 : Int32) => ∀ (H : Heap) (locs : List Loc) (ls : Array Slot), va_P (dC, dI) vwCl (mw cI cJ cG cZ a fi fl ai al) H → va_D A (mw cI cJ cG cZ a fi fl ai al) → va_S A s.heap H locs → lv_has ls 6 [(0, .ref (a 0)), (1, .int x7_1)] → W p l e (headSpec ws_Mo_nextRow ({ frames := 0, cells := 0, slots := 0, locals := 0 })).room s m ([.ref (a 0)] : List Value).toArray below meth c H locs 0 0 (MQ below (va_Qi (fun r (u : zw_Z) => (zw_k_air fi fl al K) r u.1 u.2.1 u.2.2.1 u.2.2.2) (fun u t => zw_E (dC, dI) vwCl [(cI, .int), (cJ, .long), (cG, .array .int), (cZ, .boolean)] A (mw cI cJ cG cZ a u.1 u.2.1 u.2.2.1 u.2.2.2) t) A) ([.ref (a 0)] : List Value).toArray s 0 0 A) (F0 m 7 ls [])) hw (fun L7 x7_1 ih7 hw H locs ls hP hD hS hl => ?_)) H locs ls hP hD hS (lv_sub hl [1, 0] rfl)
    refine lv_iload_n hx hb d_Mo_nextRow_7 rfl (lv_at hl 1 rfl) ?_
    refine zw_jn0_i (P := ∀ (H : Heap) (locs : List Loc) (ls : Array Slot), va_P (dC, dI) vwCl (mw cI cJ cG cZ a fi fl ai al) H → va_D A (mw cI cJ cG cZ a fi fl ai al) → va_S A s.heap H locs → lv_has ls 6 [(0, .ref (a 0)), (1, .int x7_1)] → W p l e (headSpec ws_Mo_nextRow ({ frames := 0, cells := 0, slots := 0, locals := 0 })).room s m ([.ref (a 0)] : List Value).toArray below meth c H locs 0 0 (MQ below (va_Qi (fun r (u : zw_Z) => (zw_k_air fi fl al K) r u.1 u.2.1 u.2.2.1 u.2.2.2) (fun u t => zw_E (dC, dI) vwCl [(cI, .int), (cJ, .long), (cG, .array .int), (cZ, .boolean)] A (mw cI cJ cG cZ a u.1 u.2.1 u.2.2.1 u.2.2.2) t) A) ([.ref (a 0)] : List Value).toArray s 0 0 A) (F0 m 34 ls [])) hw (fun hw H locs ls hP hD hS hl => ?_) (fun J34 hj34 hw => ?_)
    · refine lv_iload_n hx hb d_Mo_nextRow_34 rfl (lv_at hl 1 rfl) ?_
      refine lv_if_ge (tgt := 40) hx hb d_Mo_nextRow_35 (by decide) (fun c35 => ?_) (fun c35 => ?_)
      · have hw := zw_ite_t c35 hw
        refine lv_aload_n hx hb d_Mo_nextRow_40 rfl (lv_at hl 0 rfl) ?_
        refine va_get (D := (dC, dI)) (ci := 7) (v := .int (fi 8)) (C := R_Mo) (T := T_Mo) (N := 36) hx hb ht in_Mo hown hK hP 0 rfl rfl 28 (by decide) (ht _ kw_641) (fun _ h9 => h9) rfl d_Mo_nextRow_41 ?_
        refine lv_iconst (v := (1 : Int32)) hx hb d_Mo_nextRow_44 (by decide) ?_
        refine lv_isub hx hb d_Mo_nextRow_45 ?_
        refine lv_topi (fun v46 ev46 => ?_)
        have hw := zw_nm_x ev46 hw
        refine lv_istore_n (lv' := [(2, .int v46), (0, .ref (a 0)), (1, .int x7_1)]) hx hb d_Mo_nextRow_46 rfl hl (by decide) rfl (fun ls hl => ?_)
        refine (zw_lp1_i (P := fun (x47_2 : Int32) => ∀ (H : Heap) (locs : List Loc) (ls : Array Slot), va_P (dC, dI) vwCl (mw cI cJ cG cZ a fi fl ai al) H → va_D A (mw cI cJ cG cZ a fi fl ai al) → va_S A s.heap H locs → lv_has ls 6 [(0, .ref (a 0)), (1, .int x7_1), (2, .int x47_2)] → W p l e (headSpec ws_Mo_nextRow ({ frames := 0, cells := 0, slots := 0, locals := 0 })).room s m ([.ref (a 0)] : List Value).toArray below meth c H locs 0 0 (MQ below (va_Qi (fun r (u : zw_Z) => (zw_k_air fi fl al K) r u.1 u.2.1 u.2.2.1 u.2.2.2) (fun u t => zw_E (dC, dI) vwCl [(cI, .int), (cJ, .long), (cG, .array .int), (cZ, .boolean)] A (mw cI cJ cG cZ a u.1 u.2.1 u.2.2.1 u.2.2.2) t) A) ([.ref (a 0)] : List Value).toArray s 0 0 A) (F0 m 47 ls [])) hw (fun L47 x47_2 ih47 hw H locs ls hP hD hS hl => ?_)) H locs ls hP hD hS (lv_sub hl [1, 2, 0] rfl)
        refine lv_aload_n hx hb d_Mo_nextRow_47 rfl (lv_at hl 0 rfl) ?_
        refine va_get (D := (dC, dI)) (ci := 7) (v := .ref (a 20)) (C := R_Mo) (T := T_Mo) (N := 36) hx hb ht in_Mo hown hK hP 0 rfl rfl 27 (by decide) (ht _ kw_640) (fun _ h9 => h9) rfl d_Mo_nextRow_48 ?_
        refine lv_iload_n hx hb d_Mo_nextRow_51 rfl (lv_at hl 2 rfl) ?_
        obtain ⟨h52, hw⟩ := hw
        refine va_iald (f := ai 20) hx hb hK hP 20 0 rfl rfl h52 d_Mo_nextRow_52 ?_
        refine lv_aload_n hx hb d_Mo_nextRow_53 rfl (lv_at hl 0 rfl) ?_
        refine va_get (D := (dC, dI)) (ci := 7) (v := .ref (a 20)) (C := R_Mo) (T := T_Mo) (N := 36) hx hb ht in_Mo hown hK hP 0 rfl rfl 27 (by decide) (ht _ kw_640) (fun _ h9 => h9) rfl d_Mo_nextRow_54 ?_
        refine lv_iload_n hx hb d_Mo_nextRow_57 rfl (lv_at hl 1 rfl) ?_
        obtain ⟨h58, hw⟩ := hw
        refine va_iald (f := ai 20) hx hb hK hP 20 0 rfl rfl h58 d_Mo_nextRow_58 ?_
        refine lv_icmp_ge (tgt := 68) hx hb d_Mo_nextRow_59 (by decide) (fun c59 => ?_) (fun c59 => ?_)
        · have hw := zw_ite_t c59 hw
          refine lv_aload_n hx hb d_Mo_nextRow_68 rfl (lv_at hl 0 rfl) ?_
          refine va_get (D := (dC, dI)) (ci := 7) (v := .ref (a 20)) (C := R_Mo) (T := T_Mo) (N := 36) hx hb ht in_Mo hown hK hP 0 rfl rfl 27 (by decide) (ht _ kw_640) (fun _ h9 => h9) rfl d_Mo_nextRow_69 ?_
          refine lv_iload_n hx hb d_Mo_nextRow_72 rfl (lv_at hl 1 rfl) ?_
          obtain ⟨h73, hw⟩ := hw
          refine va_iald (f := ai 20) hx hb hK hP 20 0 rfl rfl h73 d_Mo_nextRow_73 ?_
          refine lv_topi (fun v74 ev74 => ?_)
          have hw := zw_nm_x ev74 hw
          refine lv_istore_n (lv' := [(3, .int v74), (0, .ref (a 0)), (1, .int x7_1), (2, .int x47_2)]) hx hb d_Mo_nextRow_74 rfl hl (by decide) rfl (fun ls hl => ?_)
          refine lv_aload_n hx hb d_Mo_nextRow_75 rfl (lv_at hl 1 rfl) ?_
          refine va_get (D := (dC, dI)) (ci := 7) (v := .ref (a 20)) (C := R_Mo) (T := T_Mo) (N := 36) hx hb ht in_Mo hown hK hP 0 rfl rfl 27 (by decide) (ht _ kw_640) (fun _ h9 => h9) rfl d_Mo_nextRow_76 ?_
          refine lv_iload_n hx hb d_Mo_nextRow_79 rfl (lv_at hl 2 rfl) ?_
          refine lv_aload_n hx hb d_Mo_nextRow_80 rfl (lv_at hl 1 rfl) ?_
          refine va_get (D := (dC, dI)) (ci := 7) (v := .ref (a 20)) (C := R_Mo) (T := T_Mo) (N := 36) hx hb ht in_Mo hown hK hP 0 rfl rfl 27 (by decide) (ht _ kw_640) (fun _ h9 => h9) rfl d_Mo_nextRow_81 ?_
          refine lv_iload_n hx hb d_Mo_nextRow_84 rfl (lv_at hl 3 rfl) ?_
          obtain ⟨h85, hw⟩ := hw
          refine va_iald (f := ai 20) hx hb hK hP 20 0 rfl rfl h85 d_Mo_nextRow_85 ?_
          obtain ⟨h86, hw⟩ := hw
          refine va_iast (f := ai 20) hx hb hK hP hD hS 20 0 rfl rfl h86 d_Mo_nextRow_86 (fun H locs hP hD hS => ?_)
          have hP := mwpai_20 hP
          have hD := mwdai_20 hD
          obtain ⟨ai_86, eai_86⟩ : ∃ z, z = va_up ai 20 (upd (ai 20) x7_1.toNatClampNeg (ai 20 x47_2.toNatClampNeg)) := ⟨_, rfl⟩
          rw [← eai_86] at hP hD
          have hw := zw_nm_x eai_86 hw
          refine lv_aload_n hx hb d_Mo_nextRow_87 rfl (lv_at hl 1 rfl) ?_
          refine va_get (D := (dC, dI)) (ci := 7) (v := .ref (a 20)) (C := R_Mo) (T := T_Mo) (N := 36) hx hb ht in_Mo hown hK hP 0 rfl rfl 27 (by decide) (ht _ kw_640) (fun _ h9 => h9) rfl d_Mo_nextRow_88 ?_
          refine lv_iload_n hx hb d_Mo_nextRow_91 rfl (lv_at hl 3 rfl) ?_
          refine lv_iload_n hx hb d_Mo_nextRow_92 rfl (lv_at hl 0 rfl) ?_
          obtain ⟨h93, hw⟩ := hw
          refine va_iast (f := ai_86 20) hx hb hK hP hD hS 20 0 rfl rfl h93 d_Mo_nextRow_93 (fun H locs hP hD hS => ?_)
          have hP := mwpai_20 hP
          have hD := mwdai_20 hD
          obtain ⟨ai_93, eai_93⟩ : ∃ z, z = va_up ai_86 20 (upd (ai_86 20) x47_2.toNatClampNeg v74) := ⟨_, rfl⟩
          rw [← eai_93] at hP hD
          have hw := zw_nm_x eai_93 hw
          refine lv_iload_n hx hb d_Mo_nextRow_94 rfl (lv_at hl 2 rfl) ?_
          refine lv_iconst (v := (1 : Int32)) hx hb d_Mo_nextRow_95 (by decide) ?_
          refine lv_iadd hx hb d_Mo_nextRow_96 ?_
          refine lv_topi (fun v97 ev97 => ?_)
          have hw := zw_nm_x ev97 hw
          refine lv_istore (lv' := [(4, .int v97), (3, .int v74), (0, .ref (a 0)), (1, .int x7_1), (2, .int x47_2)]) hx hb d_Mo_nextRow_97 hl (by decide) rfl (fun ls hl => ?_)
          refine lv_aload_n hx hb d_Mo_nextRow_99 rfl (lv_at hl 2 rfl) ?_
          refine va_get (D := (dC, dI)) (ci := 7) (v := .int (fi 8)) (C := R_Mo) (T := T_Mo) (N := 36) hx hb ht in_Mo hown hK hP 0 rfl rfl 28 (by decide) (ht _ kw_641) (fun _ h9 => h9) rfl d_Mo_nextRow_100 ?_
          refine lv_iconst (v := (1 : Int32)) hx hb d_Mo_nextRow_103 (by decide) ?_
          refine lv_isub hx hb d_Mo_nextRow_104 ?_
          refine lv_topi (fun v105 ev105 => ?_)
          have hw := zw_nm_x ev105 hw
          refine lv_istore (lv' := [(5, .int v105), (4, .int v97), (3, .int v74), (0, .ref (a 0)), (1, .int x7_1), (2, .int x47_2)]) hx hb d_Mo_nextRow_105 hl (by decide) rfl (fun ls hl => ?_)
          refine (zw_lp3_i (P := fun (x107_4 : Int32) (x107_5 : Int32) (ai107 : Nat → Nat → Int32) => ∀ (H : Heap) (locs : List Loc) (ls : Array Slot), va_P (dC, dI) vwCl (mw cI cJ cG cZ a fi fl ai107 al) H → va_D A (mw cI cJ cG cZ a fi fl ai107 al) → va_S A s.heap H locs → lv_has ls 6 [(0, .ref (a 0)), (4, .int x107_4), (5, .int x107_5)] → W p l e (headSpec ws_Mo_nextRow ({ frames := 0, cells := 0, slots := 0, locals := 0 })).room s m ([.ref (a 0)] : List Value).toArray below meth c H locs 0 0 (MQ below (va_Qi (fun r (u : zw_Z) => (zw_k_air fi fl al K) r u.1 u.2.1 u.2.2.1 u.2.2.2) (fun u t => zw_E (dC, dI) vwCl [(cI, .int), (cJ, .long), (cG, .array .int), (cZ, .boolean)] A (mw cI cJ cG cZ a u.1 u.2.1 u.2.2.1 u.2.2.2) t) A) ([.ref (a 0)] : List Value).toArray s 0 0 A) (F0 m 107 ls [])) hw (fun L107 x107_4 x107_5 ai107 ih107 hw H locs ls hP hD hS hl => ?_)) H locs ls hP hD hS (lv_sub hl [3, 1, 0] rfl)
          refine lv_iload hx hb d_Mo_nextRow_107 (lv_at hl 1 rfl) ?_
          refine lv_iload hx hb d_Mo_nextRow_109 (lv_at hl 2 rfl) ?_
          refine lv_icmp_ge (tgt := 153) hx hb d_Mo_nextRow_111 (by decide) (fun c111 => ?_) (fun c111 => ?_)
          · have hw := zw_ite_t c111 hw
            refine lv_iconst (v := (1 : Int32)) hx hb d_Mo_nextRow_153 (by decide) ?_
            exact W.zret (v := (1 : Int32)) (ty := .boolean) hx hb hr rfl (fun t ht hW => ⟨⟨(1 : Int32), (fi, fl, ai107, al), rfl, ⟨rfl, rfl, rfl, hw⟩, by rw [ht]; exact hP, va_K.moved hW.alike hK, hD⟩, hS.F ht⟩) hS.2.2 d_Mo_nextRow_154
          · have hw := zw_ite_f c111 hw
            refine lv_aload_n hx hb d_Mo_nextRow_114 rfl (lv_at hl 0 rfl) ?_
            refine va_get (D := (dC, dI)) (ci := 7) (v := .ref (a 20)) (C := R_Mo) (T := T_Mo) (N := 36) hx hb ht in_Mo hown hK hP 0 rfl rfl 27 (by decide) (ht _ kw_640) (fun _ h9 => h9) rfl d_Mo_nextRow_115 ?_
            refine lv_iload hx hb d_Mo_nextRow_118 (lv_at hl 1 rfl) ?_
            obtain ⟨h120, hw⟩ := hw
            refine va_iald (f := ai107 20) hx hb hK hP 20 0 rfl rfl h120 d_Mo_nextRow_120 ?_
            refine lv_topi (fun v121 ev121 => ?_)
            have hw := zw_nm_x ev121 hw
            refine lv_istore_n (lv' := [(3, .int v121), (0, .ref (a 0)), (4, .int x107_4), (5, .int x107_5)]) hx hb d_Mo_nextRow_121 rfl hl (by decide) rfl (fun ls hl => ?_)
            refine lv_aload_n hx hb d_Mo_nextRow_122 rfl (lv_at hl 1 rfl) ?_
            refine va_get (D := (dC, dI)) (ci := 7) (v := .ref (a 20)) (C := R_Mo) (T := T_Mo) (N := 36) hx hb ht in_Mo hown hK hP 0 rfl rfl 27 (by decide) (ht _ kw_640) (fun _ h9 => h9) rfl d_Mo_nextRow_123 ?_
            refine lv_iload hx hb d_Mo_nextRow_126 (lv_at hl 2 rfl) ?_
            refine lv_aload_n hx hb d_Mo_nextRow_128 rfl (lv_at hl 1 rfl) ?_
            refine va_get (D := (dC, dI)) (ci := 7) (v := .ref (a 20)) (C := R_Mo) (T := T_Mo) (N := 36) hx hb ht in_Mo hown hK hP 0 rfl rfl 27 (by decide) (ht _ kw_640) (fun _ h9 => h9) rfl d_Mo_nextRow_129 ?_
            refine lv_iload hx hb d_Mo_nextRow_132 (lv_at hl 3 rfl) ?_
            obtain ⟨h134, hw⟩ := hw
            refine va_iald (f := ai107 20) hx hb hK hP 20 0 rfl rfl h134 d_Mo_nextRow_134 ?_
            obtain ⟨h135, hw⟩ := hw
            refine va_iast (f := ai107 20) hx hb hK hP hD hS 20 0 rfl rfl h135 d_Mo_nextRow_135 (fun H locs hP hD hS => ?_)
            have hP := mwpai_20 hP
            have hD := mwdai_20 hD
            obtain ⟨ai_135, eai_135⟩ : ∃ z, z = va_up ai107 20 (upd (ai107 20) x107_4.toNatClampNeg (ai107 20 x107_5.toNatClampNeg)) := ⟨_, rfl⟩
            rw [← eai_135] at hP hD
            have hw := zw_nm_x eai_135 hw
            refine lv_aload_n hx hb d_Mo_nextRow_136 rfl (lv_at hl 1 rfl) ?_
            refine va_get (D := (dC, dI)) (ci := 7) (v := .ref (a 20)) (C := R_Mo) (T := T_Mo) (N := 36) hx hb ht in_Mo hown hK hP 0 rfl rfl 27 (by decide) (ht _ kw_640) (fun _ h9 => h9) rfl d_Mo_nextRow_137 ?_
            refine lv_iload hx hb d_Mo_nextRow_140 (lv_at hl 3 rfl) ?_
            refine lv_iload_n hx hb d_Mo_nextRow_142 rfl (lv_at hl 0 rfl) ?_
            obtain ⟨h143, hw⟩ := hw
            refine va_iast (f := ai_135 20) hx hb hK hP hD hS 20 0 rfl rfl h143 d_Mo_nextRow_143 (fun H locs hP hD hS => ?_)
            have hP := mwpai_20 hP
            have hD := mwdai_20 hD
            obtain ⟨ai_143, eai_143⟩ : ∃ z, z = va_up ai_135 20 (upd (ai_135 20) x107_5.toNatClampNeg v121) := ⟨_, rfl⟩
            rw [← eai_143] at hP hD
            have hw := zw_nm_x eai_143 hw
            obtain ⟨v144, ev144⟩ : ∃ y : Int32, y = x107_4 + (1 : Int32) := ⟨_, rfl⟩
            refine lv_iinc (v := v144) (lv' := [(4, .int v144), (3, .int v121), (0, .ref (a 0)), (5, .int x107_5)]) hx hb d_Mo_nextRow_144 hl (k := 2) rfl (by rw [ev144]; rfl) (by decide) rfl (fun ls hl => ?_)
            have hw := zw_nm_x ev144 hw
            obtain ⟨v147, ev147⟩ : ∃ y : Int32, y = x107_5 + (-1 : Int32) := ⟨_, rfl⟩
            refine lv_iinc (v := v147) (lv' := [(5, .int v147), (4, .int v144), (3, .int v121), (0, .ref (a 0))]) hx hb d_Mo_nextRow_147 hl (k := 3) rfl (by rw [ev147]; rfl) (by decide) rfl (fun ls hl => ?_)
            have hw := zw_nm_x ev147 hw
            refine lv_goto (tgt := 107) hx hb d_Mo_nextRow_150 (by decide) ?_
            exact (ih107 v144 v147 ai_143 hw) H locs ls hP hD hS (lv_sub hl [3, 1, 0] rfl)
        · have hw := zw_ite_f c59 hw
          obtain ⟨v62, ev62⟩ : ∃ y : Int32, y = x47_2 + (-1 : Int32) := ⟨_, rfl⟩
          refine lv_iinc (v := v62) (lv' := [(2, .int v62), (0, .ref (a 0)), (1, .int x7_1)]) hx hb d_Mo_nextRow_62 hl (k := 2) rfl (by rw [ev62]; rfl) (by decide) rfl (fun ls hl => ?_)
          have hw := zw_nm_x ev62 hw
          refine lv_goto (tgt := 47) hx hb d_Mo_nextRow_65 (by decide) ?_
          exact (ih47 v62 hw) H locs ls hP hD hS (lv_sub hl [1, 2, 0] rfl)
      · have hw := zw_ite_f c35 hw
        refine lv_iconst (v := (0 : Int32)) hx hb d_Mo_nextRow_38 (by decide) ?_
        exact W.zret (v := (0 : Int32)) (ty := .boolean) hx hb hr rfl (fun t ht hW => ⟨⟨(0 : Int32), (fi, fl, ai, al), rfl, ⟨rfl, rfl, rfl, hw⟩, by rw [ht]; exact hP, va_K.moved hW.alike hK, hD⟩, hS.F ht⟩) hS.2.2 d_Mo_nextRow_39
    · refine lv_if_lt (tgt := 34) hx hb d_Mo_nextRow_8 (by decide) (fun c8 => ?_) (fun c8 => ?_)
      · have hw := zw_ite_t c8 hw
        exact (hj34  hw) H locs ls hP hD hS (lv_sub hl [0, 1] rfl)
      · have hw := zw_ite_f c8 hw
        refine lv_aload_n hx hb d_Mo_nextRow_11 rfl (lv_at hl 0 rfl) ?_
        refine va_get (D := (dC, dI)) (ci := 7) (v := .ref (a 20)) (C := R_Mo) (T := T_Mo) (N := 36) hx hb ht in_Mo hown hK hP 0 rfl rfl 27 (by decide) (ht _ kw_640) (fun _ h9 => h9) rfl d_Mo_nextRow_12 ?_
        refine lv_iload_n hx hb d_Mo_nextRow_15 rfl (lv_at hl 1 rfl) ?_
        obtain ⟨h16, hw⟩ := hw
        refine va_iald (f := ai 20) hx hb hK hP 20 0 rfl rfl h16 d_Mo_nextRow_16 ?_
        refine lv_aload_n hx hb d_Mo_nextRow_17 rfl (lv_at hl 0 rfl) ?_
        refine va_get (D := (dC, dI)) (ci := 7) (v := .ref (a 20)) (C := R_Mo) (T := T_Mo) (N := 36) hx hb ht in_Mo hown hK hP 0 rfl rfl 27 (by decide) (ht _ kw_640) (fun _ h9 => h9) rfl d_Mo_nextRow_18 ?_
        refine lv_iload_n hx hb d_Mo_nextRow_21 rfl (lv_at hl 1 rfl) ?_
        refine lv_iconst (v := (1 : Int32)) hx hb d_Mo_nextRow_22 (by decide) ?_
        refine lv_iadd hx hb d_Mo_nextRow_23 ?_
        obtain ⟨h24, hw⟩ := hw
        refine va_iald (f := ai 20) hx hb hK hP 20 0 rfl rfl h24 d_Mo_nextRow_24 ?_
        refine lv_icmp_le (tgt := 34) hx hb d_Mo_nextRow_25 (by decide) (fun c25 => ?_) (fun c25 => ?_)
        · have hw := zw_ite_t c25 hw
          exact (hj34  hw) H locs ls hP hD hS (lv_sub hl [0, 1] rfl)
        · have hw := zw_ite_f c25 hw
          obtain ⟨v28, ev28⟩ : ∃ y : Int32, y = x7_1 + (-1 : Int32) := ⟨_, rfl⟩
          refine lv_iinc (v := v28) (lv' := [(1, .int v28), (0, .ref (a 0))]) hx hb d_Mo_nextRow_28 hl (k := 1) rfl (by rw [ev28]; rfl) (by decide) rfl (fun ls hl => ?_)
          have hw := zw_nm_x ev28 hw
          refine lv_goto (tgt := 7) hx hb d_Mo_nextRow_31 (by decide) ?_
          exact (ih7 v28 hw) H locs ls hP hD hS (lv_sub hl [1, 0] rfl)
  rw [hH, hlo] at key
  exact key
