def SS_redo_w (fi : Nat → Int32) (fl : Nat → Int64) (ai : Nat → Nat → Int32) (al : Nat → Nat → Int64) (p0 : Int32) (K : Int64 → (Nat → Int32) → (Nat → Nat → Int64) → Prop) : Prop :=
  Pl_hasStage_w fi fl ai al p0 (fun (r5 : Int32) =>
  if r5 = 0 then (
    K (-1000000000000000000 : Int64) fi al)
  else (
    zw_nm (0 : Int32) (fun (v16 : Int32) =>
    zw_lp2 (fun L17 (x17_2 : Int32) (al17 : Nat → Nat → Int64) =>
    if (fi 7) ≤ x17_2 then (
      Pl_cutFrom_w fi fl ai al17 p0 (fun (r58 : Int32) (fi_58 : Nat → Int32) =>
      K r58.toInt64 fi_58 al17))
    else (
      Pl_stageOf_w fi fl ai al17 x17_2 (fun (r33 : Int32) =>
      zw_jn1 (fun (al47 : Nat → Nat → Int64) =>
      zw_nm (x17_2 + (1 : Int32)) (fun (v47 : Int32) =>
      L17 v47 al47)) (fun J47 =>
      if r33 < p0 then (
        J47 al17)
      else (
        vp_in x17_2 6 ∧ (zw_nm (va_up al17 17 (vp_updL (al17 17) x17_2.toNatClampNeg (0 : Int64))) (fun (al_46 : Nat → Nat → Int64) =>
        J47 al_46))))))) v16 al)))
theorem d_SS_redo_0 : decode b_SS_redo 0 = .ok (.aload_n 0, 1) := by decide +kernel
theorem d_SS_redo_1 : decode b_SS_redo 1 = .ok (.getfield 19, 3) := by decide +kernel
theorem d_SS_redo_4 : decode b_SS_redo 4 = .ok (.iload_n 1, 1) := by decide +kernel
theorem d_SS_redo_5 : decode b_SS_redo 5 = .ok (.invokevirtual 186, 3) := by decide +kernel
theorem d_SS_redo_8 : decode b_SS_redo 8 = .ok (.ifCond .ne (7), 3) := by decide +kernel
theorem d_SS_redo_11 : decode b_SS_redo 11 = .ok (.ldc2_w 128, 3) := by decide +kernel
theorem d_SS_redo_14 : decode b_SS_redo 14 = .ok (.lreturn, 1) := by decide +kernel
theorem d_SS_redo_15 : decode b_SS_redo 15 = .ok (.iconst 0, 1) := by decide +kernel
theorem d_SS_redo_16 : decode b_SS_redo 16 = .ok (.istore_n 2, 1) := by decide +kernel
theorem d_SS_redo_17 : decode b_SS_redo 17 = .ok (.iload_n 2, 1) := by decide +kernel
theorem d_SS_redo_18 : decode b_SS_redo 18 = .ok (.aload_n 0, 1) := by decide +kernel
theorem d_SS_redo_19 : decode b_SS_redo 19 = .ok (.getfield 55, 3) := by decide +kernel
theorem d_SS_redo_22 : decode b_SS_redo 22 = .ok (.getfield 222, 3) := by decide +kernel
theorem d_SS_redo_25 : decode b_SS_redo 25 = .ok (.if_icmp .ge (28), 3) := by decide +kernel
theorem d_SS_redo_28 : decode b_SS_redo 28 = .ok (.aload_n 0, 1) := by decide +kernel
theorem d_SS_redo_29 : decode b_SS_redo 29 = .ok (.getfield 19, 3) := by decide +kernel
theorem d_SS_redo_32 : decode b_SS_redo 32 = .ok (.iload_n 2, 1) := by decide +kernel
theorem d_SS_redo_33 : decode b_SS_redo 33 = .ok (.invokevirtual 183, 3) := by decide +kernel
theorem d_SS_redo_36 : decode b_SS_redo 36 = .ok (.iload_n 1, 1) := by decide +kernel
theorem d_SS_redo_37 : decode b_SS_redo 37 = .ok (.if_icmp .lt (10), 3) := by decide +kernel
theorem d_SS_redo_40 : decode b_SS_redo 40 = .ok (.aload_n 0, 1) := by decide +kernel
theorem d_SS_redo_41 : decode b_SS_redo 41 = .ok (.getfield 30, 3) := by decide +kernel
theorem d_SS_redo_44 : decode b_SS_redo 44 = .ok (.iload_n 2, 1) := by decide +kernel
theorem d_SS_redo_45 : decode b_SS_redo 45 = .ok (.lconst 0, 1) := by decide +kernel
theorem d_SS_redo_46 : decode b_SS_redo 46 = .ok (.lastore, 1) := by decide +kernel
theorem d_SS_redo_47 : decode b_SS_redo 47 = .ok (.iinc 2 (1), 3) := by decide +kernel
theorem d_SS_redo_50 : decode b_SS_redo 50 = .ok (.goto (-33), 3) := by decide +kernel
theorem d_SS_redo_53 : decode b_SS_redo 53 = .ok (.aload_n 0, 1) := by decide +kernel
theorem d_SS_redo_54 : decode b_SS_redo 54 = .ok (.getfield 19, 3) := by decide +kernel
theorem d_SS_redo_57 : decode b_SS_redo 57 = .ok (.iload_n 1, 1) := by decide +kernel
theorem d_SS_redo_58 : decode b_SS_redo 58 = .ok (.invokevirtual 225, 3) := by decide +kernel
theorem d_SS_redo_61 : decode b_SS_redo 61 = .ok (.i2l, 1) := by decide +kernel
theorem d_SS_redo_62 : decode b_SS_redo 62 = .ok (.lreturn, 1) := by decide +kernel
set_option maxHeartbeats 4000000 in
set_option maxRecDepth 100000 in
theorem c_SS_redo (l : Launch) (dC : Nat → ClassId) (dI : Nat → Nat → Nat) (cI cJ cG cZ : ClassId) (a : Nat → Nat) (sz : Nat) (fi : Nat → Int32) (fl : Nat → Int64) (ai : Nat → Nat → Int32) (al : Nat → Nat → Int64) (p0 : Int32) (K : Int64 → (Nat → Int32) → (Nat → Nat → Int64) → Prop) (hw : SS_redo_w fi fl ai al p0 K) : Met l y_SS_redo ws_SS_redo ({ frames := 2, cells := 0, slots := 0, locals := 44 }) (va_Pc [.ref (a 0), .int p0] (zw_Bw (dC, dI) vwCl [(cI, .int), (cJ, .long), (cG, .array .int), (cZ, .boolean)] (cw cI cJ cG cZ a fi fl ai al) sz)) (va_Ql (fun r (u : zw_Z) => (zw_k_fi_alr fl ai K) r u.1 u.2.1 u.2.2.1 u.2.2.2) (fun u t => zw_E (dC, dI) vwCl [(cI, .int), (cJ, .long), (cG, .array .int), (cZ, .boolean)] (va_A (cw cI cJ cG cZ a fi fl ai al) sz) (cw cI cJ cG cZ a u.1 u.2.1 u.2.2.1 u.2.2.2) t) (va_A (cw cI cJ cG cZ a fi fl ai al) sz)) 0 0 (va_A (cw cI cJ cG cZ a fi fl ai al) sz) := by
  refine Met.ofW (cc := b_SS_redo) (maxL := 3) (ret := (Option.some FieldType.long)) (by decide) rfl ?_
  intro p e s m args below meth c s₁ B hml hv
  obtain ⟨rfl, hsz, hP, hK, hD0, hN⟩ := hv
  have hx := B.exec
  have hb := B.bytes
  have hr := B.returns
  have hts := atoms_spec (ws := ws_SS_redo) B.pre
  have ht : ∀ w ∈ zw_tbl, w.before _ s = true := fun w h => hts w (List.mem_cons_of_mem _ h)
  have hown : s.vm.findClass R_SS = some m.cls := findClass_of_methodNamed B.named
  have hlocks := B.notSynchronized
  subst hsz
  have hD := hD0.self (sz := s.heap.size)
  generalize hAe : va_A (cw cI cJ cG cZ a fi fl ai al) s.heap.size = A at hD ⊢
  have hA : ∀ q : Nat, s.heap.size ≤ q → A q := fun q h => by rw [← hAe]; exact Or.inr h
  have hS : va_S A s.heap s.heap [] := va_S.rf
  have hl := lv_entry ([.ref (a 0), .int p0] : List Value) (n := 3) (Nat.le_of_ble_eq_true rfl)
  rw [lg_entry_eq]
  generalize (lg_sl ([.ref (a 0), .int p0] : List Value) ++ List.replicate (3 - (lg_sl ([.ref (a 0), .int p0] : List Value)).length) Slot.unset).toArray = ls at hl ⊢
  have hl : lv_has ls 3 [(0, .ref (a 0)), (1, .int p0)] := hl
  unfold SS_redo_w at hw
  obtain ⟨H, hH⟩ : ∃ H, H = s.heap := ⟨_, rfl⟩
  obtain ⟨locs, hlo⟩ : ∃ q : List Loc, q = [] := ⟨_, rfl⟩
  have hP : va_P (dC, dI) vwCl (cw cI cJ cG cZ a fi fl ai al) H := by rw [hH]; exact hP
  have hS : va_S A s.heap H locs := by rw [hH, hlo]; exact hS
  have key : W p l e (headSpec ws_SS_redo ({ frames := 2, cells := 0, slots := 0, locals := 44 })).room s m ([.ref (a 0), .int p0] : List Value).toArray below meth c H locs 0 0 (MQ below (va_Ql (fun r (u : zw_Z) => (zw_k_fi_alr fl ai K) r u.1 u.2.1 u.2.2.1 u.2.2.2) (fun u t => zw_E (dC, dI) vwCl [(cI, .int), (cJ, .long), (cG, .array .int), (cZ, .boolean)] A (cw cI cJ cG cZ a u.1 u.2.1 u.2.2.1 u.2.2.2) t) A) ([.ref (a 0), .int p0] : List Value).toArray s 0 0 A) (F0 m 0 ls []) := by
    refine lv_aload_n hx hb d_SS_redo_0 rfl (lv_at hl 0 rfl) ?_
    refine va_get (D := (dC, dI)) (ci := 0) (v := .ref (a 4)) (C := R_SS) (T := T_SS) (N := 9) hx hb ht in_SS hown hK hP 0 rfl rfl 2 (by decide) (ht _ kw_244) (fun _ h9 => h9) rfl d_SS_redo_1 ?_
    refine lv_iload_n hx hb d_SS_redo_4 rfl (lv_at hl 1 rfl) ?_
    refine vp_callSi (va_Run.run (va_runV (As := [.int p0]) (rest := []) ⟨hx, hb, hml, hown, hts⟩ (c_Pl_hasStage l dC dI cI cJ cG cZ a fi fl ai al p0 _ hw) (cwV 1 hts (zw_goodV kw_411 kw_412 kw_413 kw_3 kw_414) rfl rfl rfl hd_Pl_hasStage ⟨Nat.le_of_ble_eq_true rfl, Nat.le_of_ble_eq_true rfl⟩) (zw_preV (ci := 3) (q0 := 4) hK hN hP rfl rfl) rfl rfl hl.1 rfl (lv_room (Nat.le_of_ble_eq_true rfl)) d_SS_redo_5 ⟨Nat.le_of_ble_eq_true rfl, Nat.le_of_ble_eq_true rfl⟩)) (fun r5 hw => ?_)
    refine lv_if_ne (tgt := 15) hx hb d_SS_redo_8 (by decide) (fun c8 => ?_) (fun c8 => ?_)
    · have hw := zw_ite_f c8 hw
      refine lv_iconst (v := (0 : Int32)) hx hb d_SS_redo_15 (by decide) ?_
      refine lv_topi (fun v16 ev16 => ?_)
      have hw := zw_nm_x ev16 hw
      refine lv_istore_n (lv' := [(2, .int v16), (0, .ref (a 0)), (1, .int p0)]) hx hb d_SS_redo_16 rfl hl (by decide) rfl (fun ls hl => ?_)
      refine (zw_lp2_i (P := fun (x17_2 : Int32) (al17 : Nat → Nat → Int64) => ∀ (H : Heap) (locs : List Loc) (ls : Array Slot), va_P (dC, dI) vwCl (cw cI cJ cG cZ a fi fl ai al17) H → va_D A (cw cI cJ cG cZ a fi fl ai al17) → va_S A s.heap H locs → lv_has ls 3 [(0, .ref (a 0)), (1, .int p0), (2, .int x17_2)] → W p l e (headSpec ws_SS_redo ({ frames := 2, cells := 0, slots := 0, locals := 44 })).room s m ([.ref (a 0), .int p0] : List Value).toArray below meth c H locs 0 0 (MQ below (va_Ql (fun r (u : zw_Z) => (zw_k_fi_alr fl ai K) r u.1 u.2.1 u.2.2.1 u.2.2.2) (fun u t => zw_E (dC, dI) vwCl [(cI, .int), (cJ, .long), (cG, .array .int), (cZ, .boolean)] A (cw cI cJ cG cZ a u.1 u.2.1 u.2.2.1 u.2.2.2) t) A) ([.ref (a 0), .int p0] : List Value).toArray s 0 0 A) (F0 m 17 ls [])) hw (fun L17 x17_2 al17 ih17 hw H locs ls hP hD hS hl => ?_)) H locs ls hP hD hS (lv_sub hl [1, 2, 0] rfl)
      refine lv_iload_n hx hb d_SS_redo_17 rfl (lv_at hl 2 rfl) ?_
      refine lv_aload_n hx hb d_SS_redo_18 rfl (lv_at hl 0 rfl) ?_
      refine va_get (D := (dC, dI)) (ci := 0) (v := .ref (a 19)) (C := R_SS) (T := T_SS) (N := 9) hx hb ht in_SS hown hK hP 0 rfl rfl 0 (by decide) (ht _ kw_242) (fun _ h9 => h9) rfl d_SS_redo_19 ?_
      refine va_get (D := (dC, dI)) (ci := 2) (v := .int (fi 7)) (C := R_Gi) (T := T_Gi) (N := 7) hx hb ht in_Gi hown hK hP 19 rfl rfl 0 (by decide) (ht _ kw_137) (fun _ h9 => h9) rfl d_SS_redo_22 ?_
      refine lv_icmp_ge (tgt := 53) hx hb d_SS_redo_25 (by decide) (fun c25 => ?_) (fun c25 => ?_)
      · have hw := zw_ite_t c25 hw
        refine lv_aload_n hx hb d_SS_redo_53 rfl (lv_at hl 0 rfl) ?_
        refine va_get (D := (dC, dI)) (ci := 0) (v := .ref (a 4)) (C := R_SS) (T := T_SS) (N := 9) hx hb ht in_SS hown hK hP 0 rfl rfl 2 (by decide) (ht _ kw_244) (fun _ h9 => h9) rfl d_SS_redo_54 ?_
        refine lv_iload_n hx hb d_SS_redo_57 rfl (lv_at hl 1 rfl) ?_
        refine zw_ci (va_runV (As := [.int p0]) (rest := []) ⟨hx, hb, hml, hown, hts⟩ (c_Pl_cutFrom l dC dI cI cJ cG cZ a H.size fi fl ai al17 p0 _ hw) (cwV 1 hts (zw_goodV kw_554 kw_555 kw_556 kw_3 kw_557) rfl rfl rfl hd_Pl_cutFrom ⟨Nat.le_of_ble_eq_true rfl, Nat.le_of_ble_eq_true rfl⟩) (zw_preVw (ci := 3) (q0 := 4) hK hN hP hD rfl rfl) rfl rfl hl.1 rfl (lv_room (Nat.le_of_ble_eq_true rfl)) d_SS_redo_58 ⟨Nat.le_of_ble_eq_true rfl, Nat.le_of_ble_eq_true rfl⟩) hD hS hA (fun r58 fi_58 fl_58 ai_58 al_58 H locs hw hP hD hS => ?_)
        obtain ⟨rfl, rfl, rfl, hw⟩ := hw
        refine lv_i2l hx hb d_SS_redo_61 rfl ?_
        exact W.lret (v := r58.toInt64) hx hb hr (fun t ht hW => ⟨⟨r58.toInt64, (fi_58, fl, ai, al17), rfl, ⟨rfl, rfl, hw⟩, by rw [ht]; exact hP, va_K.moved hW.alike hK, hD⟩, hS.F ht⟩) hS.2.2 d_SS_redo_62
      · have hw := zw_ite_f c25 hw
        refine lv_aload_n hx hb d_SS_redo_28 rfl (lv_at hl 0 rfl) ?_
        refine va_get (D := (dC, dI)) (ci := 0) (v := .ref (a 4)) (C := R_SS) (T := T_SS) (N := 9) hx hb ht in_SS hown hK hP 0 rfl rfl 2 (by decide) (ht _ kw_244) (fun _ h9 => h9) rfl d_SS_redo_29 ?_
        refine lv_iload_n hx hb d_SS_redo_32 rfl (lv_at hl 2 rfl) ?_
        refine vp_callSi (va_Run.run (va_runV (As := [.int x17_2]) (rest := []) ⟨hx, hb, hml, hown, hts⟩ (c_Pl_stageOf l dC dI cI cJ cG cZ a fi fl ai al17 x17_2 _ hw) (cwV 1 hts (zw_goodV kw_415 kw_416 kw_417 kw_3 kw_418) rfl rfl rfl hd_Pl_stageOf ⟨Nat.le_of_ble_eq_true rfl, Nat.le_of_ble_eq_true rfl⟩) (zw_preV (ci := 3) (q0 := 4) hK hN hP rfl rfl) rfl rfl hl.1 rfl (lv_room (Nat.le_of_ble_eq_true rfl)) d_SS_redo_33 ⟨Nat.le_of_ble_eq_true rfl, Nat.le_of_ble_eq_true rfl⟩)) (fun r33 hw => ?_)
        refine lv_iload_n hx hb d_SS_redo_36 rfl (lv_at hl 1 rfl) ?_
        refine zw_jn1_i (P := fun (al47 : Nat → Nat → Int64) => ∀ (H : Heap) (locs : List Loc) (ls : Array Slot), va_P (dC, dI) vwCl (cw cI cJ cG cZ a fi fl ai al47) H → va_D A (cw cI cJ cG cZ a fi fl ai al47) → va_S A s.heap H locs → lv_has ls 3 [(0, .ref (a 0)), (1, .int p0), (2, .int x17_2)] → W p l e (headSpec ws_SS_redo ({ frames := 2, cells := 0, slots := 0, locals := 44 })).room s m ([.ref (a 0), .int p0] : List Value).toArray below meth c H locs 0 0 (MQ below (va_Ql (fun r (u : zw_Z) => (zw_k_fi_alr fl ai K) r u.1 u.2.1 u.2.2.1 u.2.2.2) (fun u t => zw_E (dC, dI) vwCl [(cI, .int), (cJ, .long), (cG, .array .int), (cZ, .boolean)] A (cw cI cJ cG cZ a u.1 u.2.1 u.2.2.1 u.2.2.2) t) A) ([.ref (a 0), .int p0] : List Value).toArray s 0 0 A) (F0 m 47 ls [])) hw (fun al47 hw H locs ls hP hD hS hl => ?_) (fun J47 hj47 hw => ?_)
        · obtain ⟨v47, ev47⟩ : ∃ y : Int32, y = x17_2 + (1 : Int32) := ⟨_, rfl⟩
          refine lv_iinc (v := v47) (lv' := [(2, .int v47), (0, .ref (a 0)), (1, .int p0)]) hx hb d_SS_redo_47 hl (k := 2) rfl (by rw [ev47]; rfl) (by decide) rfl (fun ls hl => ?_)
          have hw := zw_nm_x ev47 hw
          refine lv_goto (tgt := 17) hx hb d_SS_redo_50 (by decide) ?_
          exact (ih17 v47 al47 hw) H locs ls hP hD hS (lv_sub hl [1, 2, 0] rfl)
        · refine lv_icmp_lt (tgt := 47) hx hb d_SS_redo_37 (by decide) (fun c37 => ?_) (fun c37 => ?_)
          · have hw := zw_ite_t c37 hw
            exact (hj47 al17 hw) H locs ls hP hD hS (lv_sub hl [0, 1, 2] rfl)
          · have hw := zw_ite_f c37 hw
            refine lv_aload_n hx hb d_SS_redo_40 rfl (lv_at hl 0 rfl) ?_
            refine va_get (D := (dC, dI)) (ci := 0) (v := .ref (a 17)) (C := R_SS) (T := T_SS) (N := 9) hx hb ht in_SS hown hK hP 0 rfl rfl 6 (by decide) (ht _ kw_248) (fun _ h9 => h9) rfl d_SS_redo_41 ?_
            refine lv_iload_n hx hb d_SS_redo_44 rfl (lv_at hl 2 rfl) ?_
            refine lv_lconst (v := (0 : Int64)) hx hb d_SS_redo_45 (by decide) ?_
            obtain ⟨h46, hw⟩ := hw
            refine va_last (f := al17 17) hx hb hK hP hD hS 17 1 rfl rfl h46 d_SS_redo_46 (fun H locs hP hD hS => ?_)
            have hP := cwpal_17 hP
            have hD := cwdal_17 hD
            obtain ⟨al_46, eal_46⟩ : ∃ z, z = va_up al17 17 (vp_updL (al17 17) x17_2.toNatClampNeg (0 : Int64)) := ⟨_, rfl⟩
            rw [← eal_46] at hP hD
            have hw := zw_nm_x eal_46 hw
            exact (hj47 al_46 hw) H locs ls hP hD hS (lv_sub hl [0, 1, 2] rfl)
    · have hw := zw_ite_t c8 hw
      refine lv_ldc2 (v := (-1000000000000000000 : Int64)) hx hb hown (hts (.constantLong R_SS 128 (-1000000000000000000 : Int64)) (by decide +kernel)) d_SS_redo_11 ?_
      exact W.lret (v := (-1000000000000000000 : Int64)) hx hb hr (fun t ht hW => ⟨⟨(-1000000000000000000 : Int64), (fi, fl, ai, al), rfl, ⟨rfl, rfl, hw⟩, by rw [ht]; exact hP, va_K.moved hW.alike hK, hD⟩, hS.F ht⟩) hS.2.2 d_SS_redo_14
  rw [hH, hlo] at key
  exact key
def Wa_greatestSize_w (fi : Nat → Int32) (fl : Nat → Int64) (ai : Nat → Nat → Int32) (al : Nat → Nat → Int64) (K : Int64 → Prop) : Prop :=
  zw_nm (0 : Int64) (fun (v1 : Int64) =>
  zw_nm (0 : Int32) (fun (v3 : Int32) =>
  zw_lp2 (fun L4 (x4_1 : Int64) (x4_3 : Int32) =>
  if (fi 7) ≤ x4_3 then (
    K x4_1)
  else (
    vp_in x4_3 6 ∧ (
    zw_jn1 (fun (x38_1 : Int64) =>
    zw_nm (x4_3 + (1 : Int32)) (fun (v38 : Int32) =>
    L4 x38_1 v38)) (fun J38 =>
    if (ai 43 x4_3.toNatClampNeg) < 0 then (
      J38 x4_1)
    else (
      vp_in x4_3 6 ∧ (
      zw_nm (if 0 < (al 41 x4_3.toNatClampNeg) then (al 41 x4_3.toNatClampNeg) else -(al 41 x4_3.toNatClampNeg)) (fun (v31 : Int64) =>
      zw_nm (if v31 < x4_1 then x4_1 else v31) (fun (v34 : Int64) =>
      J38 v34)))))))) v1 v3))
theorem d_Wa_greatestSize_0 : decode b_Wa_greatestSize 0 = .ok (.lconst 0, 1) := by decide +kernel
theorem d_Wa_greatestSize_1 : decode b_Wa_greatestSize 1 = .ok (.lstore_n 1, 1) := by decide +kernel
theorem d_Wa_greatestSize_2 : decode b_Wa_greatestSize 2 = .ok (.iconst 0, 1) := by decide +kernel
theorem d_Wa_greatestSize_3 : decode b_Wa_greatestSize 3 = .ok (.istore_n 3, 1) := by decide +kernel
theorem d_Wa_greatestSize_4 : decode b_Wa_greatestSize 4 = .ok (.iload_n 3, 1) := by decide +kernel
theorem d_Wa_greatestSize_5 : decode b_Wa_greatestSize 5 = .ok (.aload_n 0, 1) := by decide +kernel
theorem d_Wa_greatestSize_6 : decode b_Wa_greatestSize 6 = .ok (.getfield 30, 3) := by decide +kernel
theorem d_Wa_greatestSize_9 : decode b_Wa_greatestSize 9 = .ok (.getfield 102, 3) := by decide +kernel
theorem d_Wa_greatestSize_12 : decode b_Wa_greatestSize 12 = .ok (.if_icmp .ge (32), 3) := by decide +kernel
theorem d_Wa_greatestSize_15 : decode b_Wa_greatestSize 15 = .ok (.aload_n 0, 1) := by decide +kernel
theorem d_Wa_greatestSize_16 : decode b_Wa_greatestSize 16 = .ok (.getfield 18, 3) := by decide +kernel
theorem d_Wa_greatestSize_19 : decode b_Wa_greatestSize 19 = .ok (.iload_n 3, 1) := by decide +kernel
theorem d_Wa_greatestSize_20 : decode b_Wa_greatestSize 20 = .ok (.iaload, 1) := by decide +kernel
theorem d_Wa_greatestSize_21 : decode b_Wa_greatestSize 21 = .ok (.ifCond .lt (17), 3) := by decide +kernel
theorem d_Wa_greatestSize_24 : decode b_Wa_greatestSize 24 = .ok (.lload_n 1, 1) := by decide +kernel
theorem d_Wa_greatestSize_25 : decode b_Wa_greatestSize 25 = .ok (.aload_n 0, 1) := by decide +kernel
theorem d_Wa_greatestSize_26 : decode b_Wa_greatestSize 26 = .ok (.getfield 9, 3) := by decide +kernel
theorem d_Wa_greatestSize_29 : decode b_Wa_greatestSize 29 = .ok (.iload_n 3, 1) := by decide +kernel
theorem d_Wa_greatestSize_30 : decode b_Wa_greatestSize 30 = .ok (.laload, 1) := by decide +kernel
theorem d_Wa_greatestSize_31 : decode b_Wa_greatestSize 31 = .ok (.invokestatic 105, 3) := by decide +kernel
theorem d_Wa_greatestSize_34 : decode b_Wa_greatestSize 34 = .ok (.invokestatic 111, 3) := by decide +kernel
theorem d_Wa_greatestSize_37 : decode b_Wa_greatestSize 37 = .ok (.lstore_n 1, 1) := by decide +kernel
theorem d_Wa_greatestSize_38 : decode b_Wa_greatestSize 38 = .ok (.iinc 3 (1), 3) := by decide +kernel
theorem d_Wa_greatestSize_41 : decode b_Wa_greatestSize 41 = .ok (.goto (-37), 3) := by decide +kernel
theorem d_Wa_greatestSize_44 : decode b_Wa_greatestSize 44 = .ok (.lload_n 1, 1) := by decide +kernel
theorem d_Wa_greatestSize_45 : decode b_Wa_greatestSize 45 = .ok (.lreturn, 1) := by decide +kernel
set_option maxHeartbeats 4000000 in
set_option maxRecDepth 100000 in
theorem c_Wa_greatestSize (l : Launch) (dC : Nat → ClassId) (dI : Nat → Nat → Nat) (cI cJ cG cZ : ClassId) (a : Nat → Nat) (fi : Nat → Int32) (fl : Nat → Int64) (ai : Nat → Nat → Int32) (al : Nat → Nat → Int64) (K : Int64 → Prop) (hw : Wa_greatestSize_w fi fl ai al K) : Met l y_Wa_greatestSize ws_Wa_greatestSize ({ frames := 1, cells := 0, slots := 0, locals := 23 }) (va_Pc [.ref (a 40)] (zw_B (dC, dI) vwCl [(cI, .int), (cJ, .long), (cG, .array .int), (cZ, .boolean)] (cw cI cJ cG cZ a fi fl ai al))) (vp_Sl K) 0 0 (fun _ => False) := by
  refine Met.ofW (cc := b_Wa_greatestSize) (maxL := 4) (ret := (Option.some FieldType.long)) (by decide) rfl ?_
  intro p e s m args below meth c s₁ B hml hv
  obtain ⟨rfl, hP, hK, hN⟩ := hv
  have hx := B.exec
  have hb := B.bytes
  have hr := B.returns
  have hts := atoms_spec (ws := ws_Wa_greatestSize) B.pre
  have ht : ∀ w ∈ zw_tbl, w.before _ s = true := fun w h => hts w (List.mem_cons_of_mem _ h)
  have hown : s.vm.findClass R_Wa = some m.cls := findClass_of_methodNamed B.named
  have hlocks := B.notSynchronized
  have hl := lv_entry ([.ref (a 40)] : List Value) (n := 4) (Nat.le_of_ble_eq_true rfl)
  rw [lg_entry_eq]
  generalize (lg_sl ([.ref (a 40)] : List Value) ++ List.replicate (4 - (lg_sl ([.ref (a 40)] : List Value)).length) Slot.unset).toArray = ls at hl ⊢
  have hl : lv_has ls 4 [(0, .ref (a 40))] := hl
  unfold Wa_greatestSize_w at hw
  refine lv_lconst (v := (0 : Int64)) hx hb d_Wa_greatestSize_0 (by decide) ?_
  refine lv_topl (fun v1 ev1 => ?_)
  have hw := zw_nm_x ev1 hw
  refine lv_lstore_n (lv' := [(1, .long v1), (0, .ref (a 40))]) hx hb d_Wa_greatestSize_1 rfl hl (by decide) rfl (fun ls hl => ?_)
  refine lv_iconst (v := (0 : Int32)) hx hb d_Wa_greatestSize_2 (by decide) ?_
  refine lv_topi (fun v3 ev3 => ?_)
  have hw := zw_nm_x ev3 hw
  refine lv_istore_n (lv' := [(3, .int v3), (1, .long v1), (0, .ref (a 40))]) hx hb d_Wa_greatestSize_3 rfl hl (by decide) rfl (fun ls hl => ?_)
  refine (zw_lp2_i (P := fun (x4_1 : Int64) (x4_3 : Int32) => ∀ (ls : Array Slot), lv_has ls 4 [(0, .ref (a 40)), (1, .long x4_1), (3, .int x4_3)] → W p l e (headSpec ws_Wa_greatestSize ({ frames := 1, cells := 0, slots := 0, locals := 23 })).room s m ([.ref (a 40)] : List Value).toArray below meth c s.heap [] 0 0 (MQ below (vp_Sl K) ([.ref (a 40)] : List Value).toArray s 0 0 (fun _ => False)) (F0 m 4 ls [])) hw (fun L4 x4_1 x4_3 ih4 hw ls hl => ?_)) ls (lv_sub hl [2, 1, 0] rfl)
  refine lv_iload_n hx hb d_Wa_greatestSize_4 rfl (lv_at hl 2 rfl) ?_
  refine lv_aload_n hx hb d_Wa_greatestSize_5 rfl (lv_at hl 0 rfl) ?_
  refine va_get (D := (dC, dI)) (ci := 6) (v := .ref (a 19)) (C := R_Wa) (T := T_Wa) (N := 11) hx hb ht in_Wa hown hK hP 40 rfl rfl 0 (by decide) (ht _ kw_176) (fun _ h9 => h9) rfl d_Wa_greatestSize_6 ?_
  refine va_get (D := (dC, dI)) (ci := 2) (v := .int (fi 7)) (C := R_Gi) (T := T_Gi) (N := 7) hx hb ht in_Gi hown hK hP 19 rfl rfl 0 (by decide) (ht _ kw_136) (fun _ h9 => h9) rfl d_Wa_greatestSize_9 ?_
  refine lv_icmp_ge (tgt := 44) hx hb d_Wa_greatestSize_12 (by decide) (fun c12 => ?_) (fun c12 => ?_)
  · have hw := zw_ite_t c12 hw
    refine lv_lload_n hx hb d_Wa_greatestSize_44 rfl (lv_at hl 1 rfl) ?_
    exact W.lret (v := x4_1) hx hb hr (fun t ht hW => ⟨x4_1, rfl, hw, ht⟩) t_nil d_Wa_greatestSize_45
  · have hw := zw_ite_f c12 hw
    refine lv_aload_n hx hb d_Wa_greatestSize_15 rfl (lv_at hl 0 rfl) ?_
    refine va_get (D := (dC, dI)) (ci := 6) (v := .ref (a 43)) (C := R_Wa) (T := T_Wa) (N := 11) hx hb ht in_Wa hown hK hP 40 rfl rfl 5 (by decide) (ht _ kw_183) (fun _ h9 => h9) rfl d_Wa_greatestSize_16 ?_
    refine lv_iload_n hx hb d_Wa_greatestSize_19 rfl (lv_at hl 2 rfl) ?_
    obtain ⟨h20, hw⟩ := hw
    refine va_iald (f := ai 43) hx hb hK hP 43 0 rfl rfl h20 d_Wa_greatestSize_20 ?_
    refine zw_jn1_i (P := fun (x38_1 : Int64) => ∀ (ls : Array Slot), lv_has ls 4 [(0, .ref (a 40)), (1, .long x38_1), (3, .int x4_3)] → W p l e (headSpec ws_Wa_greatestSize ({ frames := 1, cells := 0, slots := 0, locals := 23 })).room s m ([.ref (a 40)] : List Value).toArray below meth c s.heap [] 0 0 (MQ below (vp_Sl K) ([.ref (a 40)] : List Value).toArray s 0 0 (fun _ => False)) (F0 m 38 ls [])) hw (fun x38_1 hw ls hl => ?_) (fun J38 hj38 hw => ?_)
    · obtain ⟨v38, ev38⟩ : ∃ y : Int32, y = x4_3 + (1 : Int32) := ⟨_, rfl⟩
      refine lv_iinc (v := v38) (lv' := [(3, .int v38), (0, .ref (a 40)), (1, .long x38_1)]) hx hb d_Wa_greatestSize_38 hl (k := 2) rfl (by rw [ev38]; rfl) (by decide) rfl (fun ls hl => ?_)
      have hw := zw_nm_x ev38 hw
      refine lv_goto (tgt := 4) hx hb d_Wa_greatestSize_41 (by decide) ?_
      exact (ih4 x38_1 v38 hw) ls (lv_sub hl [1, 2, 0] rfl)
    · refine lv_if_lt (tgt := 38) hx hb d_Wa_greatestSize_21 (by decide) (fun c21 => ?_) (fun c21 => ?_)
      · have hw := zw_ite_t c21 hw
        exact (hj38 x4_1 hw) ls (lv_sub hl [0, 1, 2] rfl)
      · have hw := zw_ite_f c21 hw
        refine lv_lload_n hx hb d_Wa_greatestSize_24 rfl (lv_at hl 1 rfl) ?_
        refine lv_aload_n hx hb d_Wa_greatestSize_25 rfl (lv_at hl 0 rfl) ?_
        refine va_get (D := (dC, dI)) (ci := 6) (v := .ref (a 41)) (C := R_Wa) (T := T_Wa) (N := 11) hx hb ht in_Wa hown hK hP 40 rfl rfl 3 (by decide) (ht _ kw_179) (fun _ h9 => h9) rfl d_Wa_greatestSize_26 ?_
        refine lv_iload_n hx hb d_Wa_greatestSize_29 rfl (lv_at hl 2 rfl) ?_
        obtain ⟨h30, hw⟩ := hw
        refine va_lald (f := al 41) hx hb hK hP 41 1 rfl rfl h30 d_Wa_greatestSize_30 ?_
        refine va_mabs_long hx hb (hml.trans hl.1.symm) hown (ht _ kw_579) (ht _ kw_580) (ht _ kw_6) (ht _ kw_581) (Nat.le_of_ble_eq_true rfl) (Nat.le_of_ble_eq_true rfl) (Nat.le_of_ble_eq_true rfl) (Nat.le_of_ble_eq_true rfl) d_Wa_greatestSize_31 ?_
        refine lv_topl (fun v31 ev31 => ?_)
        have hw := zw_nm_x ev31 hw
        refine va_mmax_long hx hb (hml.trans hl.1.symm) hown (ht _ kw_582) (ht _ kw_502) (ht _ kw_6) (ht _ kw_503) (Nat.le_of_ble_eq_true rfl) (Nat.le_of_ble_eq_true rfl) (Nat.le_of_ble_eq_true rfl) (Nat.le_of_ble_eq_true rfl) d_Wa_greatestSize_34 ?_
        refine lv_topl (fun v34 ev34 => ?_)
        have hw := zw_nm_x ev34 hw
        refine lv_lstore_n (lv' := [(1, .long v34), (0, .ref (a 40)), (3, .int x4_3)]) hx hb d_Wa_greatestSize_37 rfl hl (by decide) rfl (fun ls hl => ?_)
        exact (hj38 v34 hw) ls (lv_sub hl [1, 0, 2] rfl)
def Se_keepIfLess_w (fi : Nat → Int32) (fl : Nat → Int64) (ai : Nat → Nat → Int32) (al : Nat → Nat → Int64) (p0 : Int64) (K : (Nat → Int32) → (Nat → Int64) → (Nat → Nat → Int32) → Prop) : Prop :=
  zw_jn0 (
  zw_nm (va_up fl 0 p0) (fun (fl_20 : Nat → Int64) =>
  zw_nm (va_up fi 11 (fi 4)) (fun (fi_31 : Nat → Int32) =>
  ¬ (fi_31 4) < 0 ∧ (0 : Int32).toNatClampNeg + (fi_31 4).toNatClampNeg ≤ 6 ∧ (0 : Int32).toNatClampNeg + (fi_31 4).toNatClampNeg ≤ 6 ∧ (zw_nm (va_up ai 60 (va_cpy (ai 59) (ai 60) (0 : Int32).toNatClampNeg (0 : Int32).toNatClampNeg (fi_31 4).toNatClampNeg)) (fun (ai_51 : Nat → Nat → Int32) =>
  K fi_31 fl_20 ai_51))))) (fun J18 =>
  if (fl 0) < (0 : Int64) then (
    J18)
  else (
    if (fl 0) ≤ p0 then (
      K fi fl ai)
    else (
      J18)))
theorem d_Se_keepIfLess_0 : decode b_Se_keepIfLess 0 = .ok (.aload_n 0, 1) := by decide +kernel
theorem d_Se_keepIfLess_1 : decode b_Se_keepIfLess 1 = .ok (.getfield 32, 3) := by decide +kernel
theorem d_Se_keepIfLess_4 : decode b_Se_keepIfLess 4 = .ok (.lconst 0, 1) := by decide +kernel
theorem d_Se_keepIfLess_5 : decode b_Se_keepIfLess 5 = .ok (.lcmp, 1) := by decide +kernel
theorem d_Se_keepIfLess_6 : decode b_Se_keepIfLess 6 = .ok (.ifCond .lt (12), 3) := by decide +kernel
theorem d_Se_keepIfLess_9 : decode b_Se_keepIfLess 9 = .ok (.lload_n 1, 1) := by decide +kernel
theorem d_Se_keepIfLess_10 : decode b_Se_keepIfLess 10 = .ok (.aload_n 0, 1) := by decide +kernel
theorem d_Se_keepIfLess_11 : decode b_Se_keepIfLess 11 = .ok (.getfield 32, 3) := by decide +kernel
theorem d_Se_keepIfLess_14 : decode b_Se_keepIfLess 14 = .ok (.lcmp, 1) := by decide +kernel
theorem d_Se_keepIfLess_15 : decode b_Se_keepIfLess 15 = .ok (.ifCond .ge (39), 3) := by decide +kernel
theorem d_Se_keepIfLess_18 : decode b_Se_keepIfLess 18 = .ok (.aload_n 0, 1) := by decide +kernel
theorem d_Se_keepIfLess_19 : decode b_Se_keepIfLess 19 = .ok (.lload_n 1, 1) := by decide +kernel
theorem d_Se_keepIfLess_20 : decode b_Se_keepIfLess 20 = .ok (.putfield 32, 3) := by decide +kernel
theorem d_Se_keepIfLess_23 : decode b_Se_keepIfLess 23 = .ok (.aload_n 0, 1) := by decide +kernel
theorem d_Se_keepIfLess_24 : decode b_Se_keepIfLess 24 = .ok (.aload_n 0, 1) := by decide +kernel
theorem d_Se_keepIfLess_25 : decode b_Se_keepIfLess 25 = .ok (.getfield 22, 3) := by decide +kernel
theorem d_Se_keepIfLess_28 : decode b_Se_keepIfLess 28 = .ok (.getfield 59, 3) := by decide +kernel
theorem d_Se_keepIfLess_31 : decode b_Se_keepIfLess 31 = .ok (.putfield 86, 3) := by decide +kernel
theorem d_Se_keepIfLess_34 : decode b_Se_keepIfLess 34 = .ok (.aload_n 0, 1) := by decide +kernel
theorem d_Se_keepIfLess_35 : decode b_Se_keepIfLess 35 = .ok (.getfield 9, 3) := by decide +kernel
theorem d_Se_keepIfLess_38 : decode b_Se_keepIfLess 38 = .ok (.iconst 0, 1) := by decide +kernel
theorem d_Se_keepIfLess_39 : decode b_Se_keepIfLess 39 = .ok (.aload_n 0, 1) := by decide +kernel
theorem d_Se_keepIfLess_40 : decode b_Se_keepIfLess 40 = .ok (.getfield 15, 3) := by decide +kernel
theorem d_Se_keepIfLess_43 : decode b_Se_keepIfLess 43 = .ok (.iconst 0, 1) := by decide +kernel
theorem d_Se_keepIfLess_44 : decode b_Se_keepIfLess 44 = .ok (.aload_n 0, 1) := by decide +kernel
theorem d_Se_keepIfLess_45 : decode b_Se_keepIfLess 45 = .ok (.getfield 22, 3) := by decide +kernel
theorem d_Se_keepIfLess_48 : decode b_Se_keepIfLess 48 = .ok (.getfield 59, 3) := by decide +kernel
theorem d_Se_keepIfLess_51 : decode b_Se_keepIfLess 51 = .ok (.invokestatic 89, 3) := by decide +kernel
theorem d_Se_keepIfLess_54 : decode b_Se_keepIfLess 54 = .ok (.return_, 1) := by decide +kernel
set_option maxHeartbeats 4000000 in
set_option maxRecDepth 100000 in
theorem c_Se_keepIfLess (l : Launch) (dC : Nat → ClassId) (dI : Nat → Nat → Nat) (cI cJ cG cZ : ClassId) (a : Nat → Nat) (sz : Nat) (fi : Nat → Int32) (fl : Nat → Int64) (ai : Nat → Nat → Int32) (al : Nat → Nat → Int64) (p0 : Int64) (K : (Nat → Int32) → (Nat → Int64) → (Nat → Nat → Int32) → Prop) (hw : Se_keepIfLess_w fi fl ai al p0 K) : Met l y_Se_keepIfLess ws_Se_keepIfLess ({ frames := 1, cells := 0, slots := 0, locals := 68 }) (va_Pc [.ref (a 58), .long p0] (zw_Bw (dC, dI) vwCl [(cI, .int), (cJ, .long), (cG, .array .int), (cZ, .boolean)] (cw cI cJ cG cZ a fi fl ai al) sz)) (va_Qv (fun (u : zw_Z) => (zw_k_fi_fl_aiv al K) u.1 u.2.1 u.2.2.1 u.2.2.2) (fun u t => zw_E (dC, dI) vwCl [(cI, .int), (cJ, .long), (cG, .array .int), (cZ, .boolean)] (va_A (cw cI cJ cG cZ a fi fl ai al) sz) (cw cI cJ cG cZ a u.1 u.2.1 u.2.2.1 u.2.2.2) t) (va_A (cw cI cJ cG cZ a fi fl ai al) sz)) 0 0 (va_A (cw cI cJ cG cZ a fi fl ai al) sz) := by
  refine Met.ofW (cc := b_Se_keepIfLess) (maxL := 3) (ret := (Option.none : Option FieldType)) (by decide) rfl ?_
  intro p e s m args below meth c s₁ B hml hv
  obtain ⟨rfl, hsz, hP, hK, hD0, hN⟩ := hv
  have hx := B.exec
  have hb := B.bytes
  have hr := B.returns
  have hts := atoms_spec (ws := ws_Se_keepIfLess) B.pre
  have ht : ∀ w ∈ zw_tbl, w.before _ s = true := fun w h => hts w (List.mem_cons_of_mem _ h)
  have hown : s.vm.findClass R_Se = some m.cls := findClass_of_methodNamed B.named
  have hlocks := B.notSynchronized
  subst hsz
  have hD := hD0.self (sz := s.heap.size)
  generalize hAe : va_A (cw cI cJ cG cZ a fi fl ai al) s.heap.size = A at hD ⊢
  have hA : ∀ q : Nat, s.heap.size ≤ q → A q := fun q h => by rw [← hAe]; exact Or.inr h
  have hS : va_S A s.heap s.heap [] := va_S.rf
  have hl := lv_entry ([.ref (a 58), .long p0] : List Value) (n := 3) (Nat.le_of_ble_eq_true rfl)
  rw [lg_entry_eq]
  generalize (lg_sl ([.ref (a 58), .long p0] : List Value) ++ List.replicate (3 - (lg_sl ([.ref (a 58), .long p0] : List Value)).length) Slot.unset).toArray = ls at hl ⊢
  have hl : lv_has ls 3 [(0, .ref (a 58)), (1, .long p0)] := hl
  unfold Se_keepIfLess_w at hw
  obtain ⟨H, hH⟩ : ∃ H, H = s.heap := ⟨_, rfl⟩
  obtain ⟨locs, hlo⟩ : ∃ q : List Loc, q = [] := ⟨_, rfl⟩
  have hP : va_P (dC, dI) vwCl (cw cI cJ cG cZ a fi fl ai al) H := by rw [hH]; exact hP
  have hS : va_S A s.heap H locs := by rw [hH, hlo]; exact hS
  have key : W p l e (headSpec ws_Se_keepIfLess ({ frames := 1, cells := 0, slots := 0, locals := 68 })).room s m ([.ref (a 58), .long p0] : List Value).toArray below meth c H locs 0 0 (MQ below (va_Qv (fun (u : zw_Z) => (zw_k_fi_fl_aiv al K) u.1 u.2.1 u.2.2.1 u.2.2.2) (fun u t => zw_E (dC, dI) vwCl [(cI, .int), (cJ, .long), (cG, .array .int), (cZ, .boolean)] A (cw cI cJ cG cZ a u.1 u.2.1 u.2.2.1 u.2.2.2) t) A) ([.ref (a 58), .long p0] : List Value).toArray s 0 0 A) (F0 m 0 ls []) := by
    refine lv_aload_n hx hb d_Se_keepIfLess_0 rfl (lv_at hl 0 rfl) ?_
    refine va_get (D := (dC, dI)) (ci := 5) (v := .long (fl 0)) (C := R_Se) (T := T_Se) (N := 7) hx hb ht in_Se hown hK hP 58 rfl rfl 6 (by decide) (ht _ kw_226) (fun _ h9 => h9) rfl d_Se_keepIfLess_1 ?_
    refine lv_lconst (v := (0 : Int64)) hx hb d_Se_keepIfLess_4 (by decide) ?_
    refine zw_jn0_i (P := ∀ (H : Heap) (locs : List Loc) (ls : Array Slot), va_P (dC, dI) vwCl (cw cI cJ cG cZ a fi fl ai al) H → va_D A (cw cI cJ cG cZ a fi fl ai al) → va_S A s.heap H locs → lv_has ls 3 [(0, .ref (a 58)), (1, .long p0)] → W p l e (headSpec ws_Se_keepIfLess ({ frames := 1, cells := 0, slots := 0, locals := 68 })).room s m ([.ref (a 58), .long p0] : List Value).toArray below meth c H locs 0 0 (MQ below (va_Qv (fun (u : zw_Z) => (zw_k_fi_fl_aiv al K) u.1 u.2.1 u.2.2.1 u.2.2.2) (fun u t => zw_E (dC, dI) vwCl [(cI, .int), (cJ, .long), (cG, .array .int), (cZ, .boolean)] A (cw cI cJ cG cZ a u.1 u.2.1 u.2.2.1 u.2.2.2) t) A) ([.ref (a 58), .long p0] : List Value).toArray s 0 0 A) (F0 m 18 ls [])) hw (fun hw H locs ls hP hD hS hl => ?_) (fun J18 hj18 hw => ?_)
    · refine lv_aload_n hx hb d_Se_keepIfLess_18 rfl (lv_at hl 0 rfl) ?_
      refine lv_lload_n hx hb d_Se_keepIfLess_19 rfl (lv_at hl 1 rfl) ?_
      refine va_put (D := (dC, dI)) (ci := 5) (v := .long p0) (ty := .long) (C := R_Se) (T := T_Se) (N := 7) hx hb ht in_Se t_Se t_Se_ok n_Se hown hK hP hD hS 58 rfl rfl 6 (by decide) (ht _ kw_226) (fun _ h9 => h9) rfl (by decide +kernel) rfl rfl (Nat.le_of_ble_eq_true rfl) d_Se_keepIfLess_20 (fun H locs hP hD hS => ?_)
      have hP := cwpfl_0 hP
      have hD := cwdfl_0 hD
      obtain ⟨fl_20, efl_20⟩ : ∃ z, z = va_up fl 0 p0 := ⟨_, rfl⟩
      rw [← efl_20] at hP hD
      have hw := zw_nm_x efl_20 hw
      refine lv_aload_n hx hb d_Se_keepIfLess_23 rfl (lv_at hl 0 rfl) ?_
      refine lv_aload_n hx hb d_Se_keepIfLess_24 rfl (lv_at hl 0 rfl) ?_
      refine va_get (D := (dC, dI)) (ci := 5) (v := .ref (a 4)) (C := R_Se) (T := T_Se) (N := 7) hx hb ht in_Se hown hK hP 58 rfl rfl 1 (by decide) (ht _ kw_219) (fun _ h9 => h9) rfl d_Se_keepIfLess_25 ?_
      refine va_get (D := (dC, dI)) (ci := 3) (v := .int (fi 4)) (C := R_Pl) (T := T_Pl) (N := 11) hx hb ht in_Pl hown hK hP 4 rfl rfl 9 (by decide) (ht _ kw_66) (fun _ h9 => h9) rfl d_Se_keepIfLess_28 ?_
      refine va_put (D := (dC, dI)) (ci := 5) (v := .int (fi 4)) (ty := .int) (C := R_Se) (T := T_Se) (N := 7) hx hb ht in_Se t_Se t_Se_ok n_Se hown hK hP hD hS 58 rfl rfl 5 (by decide) (ht _ kw_224) (fun _ h9 => h9) rfl (by decide +kernel) rfl rfl (Nat.le_of_ble_eq_true rfl) d_Se_keepIfLess_31 (fun H locs hP hD hS => ?_)
      have hP := cwpfi_11 hP
      have hD := cwdfi_11 hD
      obtain ⟨fi_31, efi_31⟩ : ∃ z, z = va_up fi 11 (fi 4) := ⟨_, rfl⟩
      rw [← efi_31] at hP hD
      have hw := zw_nm_x efi_31 hw
      refine lv_aload_n hx hb d_Se_keepIfLess_34 rfl (lv_at hl 0 rfl) ?_
      refine va_get (D := (dC, dI)) (ci := 5) (v := .ref (a 59)) (C := R_Se) (T := T_Se) (N := 7) hx hb ht in_Se hown hK hP 58 rfl rfl 3 (by decide) (ht _ kw_221) (fun _ h9 => h9) rfl d_Se_keepIfLess_35 ?_
      refine lv_iconst (v := (0 : Int32)) hx hb d_Se_keepIfLess_38 (by decide) ?_
      refine lv_aload_n hx hb d_Se_keepIfLess_39 rfl (lv_at hl 0 rfl) ?_
      refine va_get (D := (dC, dI)) (ci := 5) (v := .ref (a 60)) (C := R_Se) (T := T_Se) (N := 7) hx hb ht in_Se hown hK hP 58 rfl rfl 4 (by decide) (ht _ kw_222) (fun _ h9 => h9) rfl d_Se_keepIfLess_40 ?_
      refine lv_iconst (v := (0 : Int32)) hx hb d_Se_keepIfLess_43 (by decide) ?_
      refine lv_aload_n hx hb d_Se_keepIfLess_44 rfl (lv_at hl 0 rfl) ?_
      refine va_get (D := (dC, dI)) (ci := 5) (v := .ref (a 4)) (C := R_Se) (T := T_Se) (N := 7) hx hb ht in_Se hown hK hP 58 rfl rfl 1 (by decide) (ht _ kw_219) (fun _ h9 => h9) rfl d_Se_keepIfLess_45 ?_
      refine va_get (D := (dC, dI)) (ci := 3) (v := .int (fi_31 4)) (C := R_Pl) (T := T_Pl) (N := 11) hx hb ht in_Pl hown hK hP 4 rfl rfl 9 (by decide) (ht _ kw_66) (fun _ h9 => h9) rfl d_Se_keepIfLess_48 ?_
      obtain ⟨h51a, h51b, h51c, hw⟩ := hw
      refine va_copyi (f := ai 59) (g := ai 60) (ty := .int) hx hb (hml.trans hl.1.symm) hown (ht _ kw_587) (ht _ kw_589) (ht _ kw_588) (ht _ kw_11) hK hP hD hS 59 60 0 0 rfl rfl rfl rfl rfl (by decide) (by decide) h51a h51b h51c (fun _ _ => rfl) (Nat.le_of_ble_eq_true rfl) (Nat.le_of_ble_eq_true rfl) d_Se_keepIfLess_51 (fun H locs hP hD hS => ?_)
      have hP := cwpai_60 hP
      have hD := cwdai_60 hD
      obtain ⟨ai_51, eai_51⟩ : ∃ z, z = va_up ai 60 (va_cpy (ai 59) (ai 60) (0 : Int32).toNatClampNeg (0 : Int32).toNatClampNeg (fi_31 4).toNatClampNeg) := ⟨_, rfl⟩
      rw [← eai_51] at hP hD
      have hw := zw_nm_x eai_51 hw
      exact W.vret hx hb hr (fun t ht hW => ⟨⟨(fi_31, fl_20, ai_51, al), rfl, ⟨rfl, hw⟩, by rw [ht]; exact hP, va_K.moved hW.alike hK, hD⟩, hS.F ht⟩) hS.2.2 d_Se_keepIfLess_54
    · refine W.lcmp hx hb d_Se_keepIfLess_5 ?_
      refine lv_if_lt (tgt := 18) hx hb d_Se_keepIfLess_6 (by decide) (fun c6 => ?_) (fun c6 => ?_)
      · have hw := zw_ite_t (zw_lg_lt.mp c6) hw
        exact (hj18  hw) H locs ls hP hD hS (lv_sub hl [0, 1] rfl)
      · have hw := zw_ite_f (mt zw_lg_lt.mpr c6) hw
        refine lv_lload_n hx hb d_Se_keepIfLess_9 rfl (lv_at hl 1 rfl) ?_
        refine lv_aload_n hx hb d_Se_keepIfLess_10 rfl (lv_at hl 0 rfl) ?_
        refine va_get (D := (dC, dI)) (ci := 5) (v := .long (fl 0)) (C := R_Se) (T := T_Se) (N := 7) hx hb ht in_Se hown hK hP 58 rfl rfl 6 (by decide) (ht _ kw_226) (fun _ h9 => h9) rfl d_Se_keepIfLess_11 ?_
        refine W.lcmp hx hb d_Se_keepIfLess_14 ?_
        refine lv_if_ge (tgt := 54) hx hb d_Se_keepIfLess_15 (by decide) (fun c15 => ?_) (fun c15 => ?_)
        · have hw := zw_ite_t (zw_lg_ge.mp c15) hw
          exact W.vret hx hb hr (fun t ht hW => ⟨⟨(fi, fl, ai, al), rfl, ⟨rfl, hw⟩, by rw [ht]; exact hP, va_K.moved hW.alike hK, hD⟩, hS.F ht⟩) hS.2.2 d_Se_keepIfLess_54
        · have hw := zw_ite_f (mt zw_lg_ge.mpr c15) hw
          exact (hj18  hw) H locs ls hP hD hS (lv_sub hl [0, 1] rfl)
  rw [hH, hlo] at key
  exact key
def Se_tryFrom_w : Nat → (Nat → Int32) → (Nat → Int64) → (Nat → Nat → Int32) → (Nat → Nat → Int64) → Int32 → Int32 → Int32 → ((Nat → Int32) → (Nat → Int64) → (Nat → Nat → Int32) → (Nat → Nat → Int64) → Prop) → Prop
  | 0 => fun _ _ _ _ _ _ _ _ => False
  | nR + 1 => fun fi fl ai al p0 p1 p2 K =>
    zw_jn0 (
    Wa_go_w fi fl ai al 59 (fun (r25 : Int32) (fi_25 : Nat → Int32) (ai_25 : Nat → Nat → Int32) (al_25 : Nat → Nat → Int64) =>
    if r25 = 0 then (
      K fi_25 fl ai_25 al_25)
    else (
      Wa_greatestSize_w fi_25 fl ai_25 al_25  (fun (r36 : Int64) =>
      Se_keepIfLess_w fi_25 fl ai_25 al_25 r36 (fun (fi_39 : Nat → Int32) (fl_39 : Nat → Int64) (ai_39 : Nat → Nat → Int32) =>
      K fi_39 fl_39 ai_39 al_25))))) (fun J17 =>
    if (fi 4) ≤ p0 then (
      J17)
    else (
      if p0 < (6 : Int32) then (
        zw_nm (0 : Int32) (fun (v44 : Int32) =>
        zw_lp5 (fun L46 (x46_4 : Int32) (fi46 : Nat → Int32) (fl46 : Nat → Int64) (ai46 : Nat → Nat → Int32) (al46 : Nat → Nat → Int64) =>
        if (fi46 7) ≤ x46_4 then (
          K fi46 fl46 ai46 al46)
        else (
          SS_hasBit_w (p1 &&& (p2 ^^^ (-1 : Int32))) x46_4 (fun (r65 : Int32) =>
          zw_jn4 (fun (fi106 : Nat → Int32) (fl106 : Nat → Int64) (ai106 : Nat → Nat → Int32) (al106 : Nat → Nat → Int64) =>
          zw_nm (x46_4 + (1 : Int32)) (fun (v106 : Int32) =>
          L46 v106 fi106 fl106 ai106 al106)) (fun J106 =>
          if r65 = 0 then (
            J106 fi46 fl46 ai46 al46)
          else (
            Gi_mayFollow_w fi46 fl46 ai46 al46 x46_4 p2 (fun (r78 : Int32) =>
            if r78 = 0 then (
              J106 fi46 fl46 ai46 al46)
            else (
              vp_in p0 6 ∧ (zw_nm (va_up ai46 59 (upd (ai46 59) p0.toNatClampNeg x46_4)) (fun (ai_91 : Nat → Nat → Int32) =>
              Se_tryFrom_w nR fi46 fl46 ai_91 al46 (p0 + (1 : Int32)) p1 (p2 ||| ((1 : Int32) <<< (x46_4 &&& 31))) (fun (fi_103 : Nat → Int32) (fl_103 : Nat → Int64) (ai_103 : Nat → Nat → Int32) (al_103 : Nat → Nat → Int64) =>
              J106 fi_103 fl_103 ai_103 al_103)))))))))) v44 fi fl ai al))
      else (
        J17)))
theorem d_Se_tryFrom_0 : decode b_Se_tryFrom 0 = .ok (.iload_n 1, 1) := by decide +kernel
theorem d_Se_tryFrom_1 : decode b_Se_tryFrom 1 = .ok (.aload_n 0, 1) := by decide +kernel
theorem d_Se_tryFrom_2 : decode b_Se_tryFrom 2 = .ok (.getfield 22, 3) := by decide +kernel
theorem d_Se_tryFrom_5 : decode b_Se_tryFrom 5 = .ok (.getfield 59, 3) := by decide +kernel
theorem d_Se_tryFrom_8 : decode b_Se_tryFrom 8 = .ok (.if_icmp .ge (9), 3) := by decide +kernel
theorem d_Se_tryFrom_11 : decode b_Se_tryFrom 11 = .ok (.iload_n 1, 1) := by decide +kernel
theorem d_Se_tryFrom_12 : decode b_Se_tryFrom 12 = .ok (.bipush (6), 2) := by decide +kernel
theorem d_Se_tryFrom_14 : decode b_Se_tryFrom 14 = .ok (.if_icmp .lt (29), 3) := by decide +kernel
theorem d_Se_tryFrom_17 : decode b_Se_tryFrom 17 = .ok (.aload_n 0, 1) := by decide +kernel
theorem d_Se_tryFrom_18 : decode b_Se_tryFrom 18 = .ok (.getfield 26, 3) := by decide +kernel
theorem d_Se_tryFrom_21 : decode b_Se_tryFrom 21 = .ok (.aload_n 0, 1) := by decide +kernel
theorem d_Se_tryFrom_22 : decode b_Se_tryFrom 22 = .ok (.getfield 9, 3) := by decide +kernel
theorem d_Se_tryFrom_25 : decode b_Se_tryFrom 25 = .ok (.invokevirtual 62, 3) := by decide +kernel
theorem d_Se_tryFrom_28 : decode b_Se_tryFrom 28 = .ok (.ifCond .eq (14), 3) := by decide +kernel
theorem d_Se_tryFrom_31 : decode b_Se_tryFrom 31 = .ok (.aload_n 0, 1) := by decide +kernel
theorem d_Se_tryFrom_32 : decode b_Se_tryFrom 32 = .ok (.aload_n 0, 1) := by decide +kernel
theorem d_Se_tryFrom_33 : decode b_Se_tryFrom 33 = .ok (.getfield 26, 3) := by decide +kernel
theorem d_Se_tryFrom_36 : decode b_Se_tryFrom 36 = .ok (.invokevirtual 66, 3) := by decide +kernel
theorem d_Se_tryFrom_39 : decode b_Se_tryFrom 39 = .ok (.invokevirtual 70, 3) := by decide +kernel
theorem d_Se_tryFrom_42 : decode b_Se_tryFrom 42 = .ok (.return_, 1) := by decide +kernel
theorem d_Se_tryFrom_43 : decode b_Se_tryFrom 43 = .ok (.iconst 0, 1) := by decide +kernel
theorem d_Se_tryFrom_44 : decode b_Se_tryFrom 44 = .ok (.istore 4, 2) := by decide +kernel
theorem d_Se_tryFrom_46 : decode b_Se_tryFrom 46 = .ok (.iload 4, 2) := by decide +kernel
theorem d_Se_tryFrom_48 : decode b_Se_tryFrom 48 = .ok (.aload_n 0, 1) := by decide +kernel
theorem d_Se_tryFrom_49 : decode b_Se_tryFrom 49 = .ok (.getfield 18, 3) := by decide +kernel
theorem d_Se_tryFrom_52 : decode b_Se_tryFrom 52 = .ok (.getfield 74, 3) := by decide +kernel
theorem d_Se_tryFrom_55 : decode b_Se_tryFrom 55 = .ok (.if_icmp .ge (57), 3) := by decide +kernel
theorem d_Se_tryFrom_58 : decode b_Se_tryFrom 58 = .ok (.iload_n 2, 1) := by decide +kernel
theorem d_Se_tryFrom_59 : decode b_Se_tryFrom 59 = .ok (.iload_n 3, 1) := by decide +kernel
theorem d_Se_tryFrom_60 : decode b_Se_tryFrom 60 = .ok (.iconst (-1), 1) := by decide +kernel
theorem d_Se_tryFrom_61 : decode b_Se_tryFrom 61 = .ok (.ixor, 1) := by decide +kernel
theorem d_Se_tryFrom_62 : decode b_Se_tryFrom 62 = .ok (.iand, 1) := by decide +kernel
theorem d_Se_tryFrom_63 : decode b_Se_tryFrom 63 = .ok (.iload 4, 2) := by decide +kernel
theorem d_Se_tryFrom_65 : decode b_Se_tryFrom 65 = .ok (.invokestatic 79, 3) := by decide +kernel
theorem d_Se_tryFrom_68 : decode b_Se_tryFrom 68 = .ok (.ifCond .eq (38), 3) := by decide +kernel
theorem d_Se_tryFrom_71 : decode b_Se_tryFrom 71 = .ok (.aload_n 0, 1) := by decide +kernel
theorem d_Se_tryFrom_72 : decode b_Se_tryFrom 72 = .ok (.getfield 18, 3) := by decide +kernel
theorem d_Se_tryFrom_75 : decode b_Se_tryFrom 75 = .ok (.iload 4, 2) := by decide +kernel
theorem d_Se_tryFrom_77 : decode b_Se_tryFrom 77 = .ok (.iload_n 3, 1) := by decide +kernel
theorem d_Se_tryFrom_78 : decode b_Se_tryFrom 78 = .ok (.invokevirtual 83, 3) := by decide +kernel
theorem d_Se_tryFrom_81 : decode b_Se_tryFrom 81 = .ok (.ifCond .eq (25), 3) := by decide +kernel
theorem d_Se_tryFrom_84 : decode b_Se_tryFrom 84 = .ok (.aload_n 0, 1) := by decide +kernel
theorem d_Se_tryFrom_85 : decode b_Se_tryFrom 85 = .ok (.getfield 9, 3) := by decide +kernel
theorem d_Se_tryFrom_88 : decode b_Se_tryFrom 88 = .ok (.iload_n 1, 1) := by decide +kernel
theorem d_Se_tryFrom_89 : decode b_Se_tryFrom 89 = .ok (.iload 4, 2) := by decide +kernel
theorem d_Se_tryFrom_91 : decode b_Se_tryFrom 91 = .ok (.iastore, 1) := by decide +kernel
theorem d_Se_tryFrom_92 : decode b_Se_tryFrom 92 = .ok (.aload_n 0, 1) := by decide +kernel
theorem d_Se_tryFrom_93 : decode b_Se_tryFrom 93 = .ok (.iload_n 1, 1) := by decide +kernel
theorem d_Se_tryFrom_94 : decode b_Se_tryFrom 94 = .ok (.iconst 1, 1) := by decide +kernel
theorem d_Se_tryFrom_95 : decode b_Se_tryFrom 95 = .ok (.iadd, 1) := by decide +kernel
theorem d_Se_tryFrom_96 : decode b_Se_tryFrom 96 = .ok (.iload_n 2, 1) := by decide +kernel
theorem d_Se_tryFrom_97 : decode b_Se_tryFrom 97 = .ok (.iload_n 3, 1) := by decide +kernel
theorem d_Se_tryFrom_98 : decode b_Se_tryFrom 98 = .ok (.iconst 1, 1) := by decide +kernel
theorem d_Se_tryFrom_99 : decode b_Se_tryFrom 99 = .ok (.iload 4, 2) := by decide +kernel
theorem d_Se_tryFrom_101 : decode b_Se_tryFrom 101 = .ok (.ishl, 1) := by decide +kernel
theorem d_Se_tryFrom_102 : decode b_Se_tryFrom 102 = .ok (.ior, 1) := by decide +kernel
theorem d_Se_tryFrom_103 : decode b_Se_tryFrom 103 = .ok (.invokevirtual 55, 3) := by decide +kernel
theorem d_Se_tryFrom_106 : decode b_Se_tryFrom 106 = .ok (.iinc 4 (1), 3) := by decide +kernel
theorem d_Se_tryFrom_109 : decode b_Se_tryFrom 109 = .ok (.goto (-63), 3) := by decide +kernel
theorem d_Se_tryFrom_112 : decode b_Se_tryFrom 112 = .ok (.return_, 1) := by decide +kernel
set_option maxHeartbeats 4000000 in
set_option maxRecDepth 100000 in
theorem c_Se_tryFrom : ∀ (nR : Nat) (l : Launch) (dC : Nat → ClassId) (dI : Nat → Nat → Nat) (cI cJ cG cZ : ClassId) (a : Nat → Nat) (sz : Nat) (fi : Nat → Int32) (fl : Nat → Int64) (ai : Nat → Nat → Int32) (al : Nat → Nat → Int64) (p0 : Int32) (p1 : Int32) (p2 : Int32) (K : (Nat → Int32) → (Nat → Int64) → (Nat → Nat → Int32) → (Nat → Nat → Int64) → Prop) (hw : Se_tryFrom_w nR fi fl ai al p0 p1 p2 K), Met l y_Se_tryFrom ws_Se_tryFrom (zw_recR nR) (va_Pc [.ref (a 58), .int p0, .int p1, .int p2] (zw_Bw (dC, dI) vwCl [(cI, .int), (cJ, .long), (cG, .array .int), (cZ, .boolean)] (cw cI cJ cG cZ a fi fl ai al) sz)) (va_Qv (fun (u : zw_Z) => (zw_k_fi_fl_ai_alv  K) u.1 u.2.1 u.2.2.1 u.2.2.2) (fun u t => zw_E (dC, dI) vwCl [(cI, .int), (cJ, .long), (cG, .array .int), (cZ, .boolean)] (va_A (cw cI cJ cG cZ a fi fl ai al) sz) (cw cI cJ cG cZ a u.1 u.2.1 u.2.2.1 u.2.2.2) t) (va_A (cw cI cJ cG cZ a fi fl ai al) sz)) 0 0 (va_A (cw cI cJ cG cZ a fi fl ai al) sz) := by
  intro nR
  induction nR with
  | zero => intro l dC dI cI cJ cG cZ a sz fi fl ai al p0 p1 p2 K hw; exact hw.elim
  | succ nR ihR0 =>
  intro l dC dI cI cJ cG cZ a sz fi fl ai al p0 p1 p2 K hw
  have ihR := ihR0 l
  refine Met.ofW (cc := b_Se_tryFrom) (maxL := 5) (ret := (Option.none : Option FieldType)) (by decide) rfl ?_
  intro p e s m args below meth c s₁ B hml hv
  obtain ⟨rfl, hsz, hP, hK, hD0, hN⟩ := hv
  have hx := B.exec
  have hb := B.bytes
  have hr := B.returns
  have hts := atoms_spec (ws := ws_Se_tryFrom) B.pre
  have ht : ∀ w ∈ zw_tbl, w.before _ s = true := fun w h => hts w (List.mem_cons_of_mem _ h)
  have hown : s.vm.findClass R_Se = some m.cls := findClass_of_methodNamed B.named
  have hlocks := B.notSynchronized
  subst hsz
  have hD := hD0.self (sz := s.heap.size)
  generalize hAe : va_A (cw cI cJ cG cZ a fi fl ai al) s.heap.size = A at hD ⊢
  have hA : ∀ q : Nat, s.heap.size ≤ q → A q := fun q h => by rw [← hAe]; exact Or.inr h
  have hS : va_S A s.heap s.heap [] := va_S.rf
  have hl := lv_entry ([.ref (a 58), .int p0, .int p1, .int p2] : List Value) (n := 5) (Nat.le_of_ble_eq_true rfl)
  rw [lg_entry_eq]
  generalize (lg_sl ([.ref (a 58), .int p0, .int p1, .int p2] : List Value) ++ List.replicate (5 - (lg_sl ([.ref (a 58), .int p0, .int p1, .int p2] : List Value)).length) Slot.unset).toArray = ls at hl ⊢
  have hl : lv_has ls 5 [(0, .ref (a 58)), (1, .int p0), (2, .int p1), (3, .int p2)] := hl
  unfold Se_tryFrom_w at hw
  obtain ⟨H, hH⟩ : ∃ H, H = s.heap := ⟨_, rfl⟩
  obtain ⟨locs, hlo⟩ : ∃ q : List Loc, q = [] := ⟨_, rfl⟩
  have hP : va_P (dC, dI) vwCl (cw cI cJ cG cZ a fi fl ai al) H := by rw [hH]; exact hP
  have hS : va_S A s.heap H locs := by rw [hH, hlo]; exact hS
  have key : W p l e (headSpec ws_Se_tryFrom (zw_recR (nR + 1))).room s m ([.ref (a 58), .int p0, .int p1, .int p2] : List Value).toArray below meth c H locs 0 0 (MQ below (va_Qv (fun (u : zw_Z) => (zw_k_fi_fl_ai_alv  K) u.1 u.2.1 u.2.2.1 u.2.2.2) (fun u t => zw_E (dC, dI) vwCl [(cI, .int), (cJ, .long), (cG, .array .int), (cZ, .boolean)] A (cw cI cJ cG cZ a u.1 u.2.1 u.2.2.1 u.2.2.2) t) A) ([.ref (a 58), .int p0, .int p1, .int p2] : List Value).toArray s 0 0 A) (F0 m 0 ls []) := by
    refine lv_iload_n hx hb d_Se_tryFrom_0 rfl (lv_at hl 1 rfl) ?_
    refine lv_aload_n hx hb d_Se_tryFrom_1 rfl (lv_at hl 0 rfl) ?_
    refine va_get (D := (dC, dI)) (ci := 5) (v := .ref (a 4)) (C := R_Se) (T := T_Se) (N := 7) hx hb ht in_Se hown hK hP 58 rfl rfl 1 (by decide) (ht _ kw_219) (fun _ h9 => h9) rfl d_Se_tryFrom_2 ?_
    refine va_get (D := (dC, dI)) (ci := 3) (v := .int (fi 4)) (C := R_Pl) (T := T_Pl) (N := 11) hx hb ht in_Pl hown hK hP 4 rfl rfl 9 (by decide) (ht _ kw_66) (fun _ h9 => h9) rfl d_Se_tryFrom_5 ?_
    refine zw_jn0_i (P := ∀ (H : Heap) (locs : List Loc) (ls : Array Slot), va_P (dC, dI) vwCl (cw cI cJ cG cZ a fi fl ai al) H → va_D A (cw cI cJ cG cZ a fi fl ai al) → va_S A s.heap H locs → lv_has ls 5 [(0, .ref (a 58))] → W p l e (headSpec ws_Se_tryFrom (zw_recR (nR + 1))).room s m ([.ref (a 58), .int p0, .int p1, .int p2] : List Value).toArray below meth c H locs 0 0 (MQ below (va_Qv (fun (u : zw_Z) => (zw_k_fi_fl_ai_alv  K) u.1 u.2.1 u.2.2.1 u.2.2.2) (fun u t => zw_E (dC, dI) vwCl [(cI, .int), (cJ, .long), (cG, .array .int), (cZ, .boolean)] A (cw cI cJ cG cZ a u.1 u.2.1 u.2.2.1 u.2.2.2) t) A) ([.ref (a 58), .int p0, .int p1, .int p2] : List Value).toArray s 0 0 A) (F0 m 17 ls [])) hw (fun hw H locs ls hP hD hS hl => ?_) (fun J17 hj17 hw => ?_)
    · refine lv_aload_n hx hb d_Se_tryFrom_17 rfl (lv_at hl 0 rfl) ?_
      refine va_get (D := (dC, dI)) (ci := 5) (v := .ref (a 40)) (C := R_Se) (T := T_Se) (N := 7) hx hb ht in_Se hown hK hP 58 rfl rfl 2 (by decide) (ht _ kw_220) (fun _ h9 => h9) rfl d_Se_tryFrom_18 ?_
      refine lv_aload_n hx hb d_Se_tryFrom_21 rfl (lv_at hl 0 rfl) ?_
      refine va_get (D := (dC, dI)) (ci := 5) (v := .ref (a 59)) (C := R_Se) (T := T_Se) (N := 7) hx hb ht in_Se hown hK hP 58 rfl rfl 3 (by decide) (ht _ kw_221) (fun _ h9 => h9) rfl d_Se_tryFrom_22 ?_
      refine zw_ci (va_runV (As := [.ref (a 59)]) (rest := []) ⟨hx, hb, hml, hown, hts⟩ (c_Wa_go l dC dI cI cJ cG cZ a H.size fi fl ai al 59 _ (fun _ _ _ _ => rfl) hw) (cwV 1 hts (zw_goodV kw_574 kw_441 kw_442 kw_7 kw_443) rfl rfl rfl hd_Wa_go ⟨zw_geF (by decide) nR, zw_geL (by decide) nR⟩) (zw_preVw (ci := 6) (q0 := 40) hK hN hP hD rfl rfl) rfl rfl hl.1 rfl (lv_room (Nat.le_of_ble_eq_true rfl)) d_Se_tryFrom_25 ⟨Nat.le_refl _, Nat.le_refl _⟩) hD hS hA (fun r25 fi_25 fl_25 ai_25 al_25 H locs hw hP hD hS => ?_)
      obtain ⟨rfl, hw⟩ := hw
      refine lv_if_eq (tgt := 42) hx hb d_Se_tryFrom_28 (by decide) (fun c28 => ?_) (fun c28 => ?_)
      · have hw := zw_ite_t c28 hw
        exact W.vret hx hb hr (fun t ht hW => ⟨⟨(fi_25, fl, ai_25, al_25), rfl, hw, by rw [ht]; exact hP, va_K.moved hW.alike hK, hD⟩, hS.F ht⟩) hS.2.2 d_Se_tryFrom_42
      · have hw := zw_ite_f c28 hw
        refine lv_aload_n hx hb d_Se_tryFrom_31 rfl (lv_at hl 0 rfl) ?_
        refine lv_aload_n hx hb d_Se_tryFrom_32 rfl (lv_at hl 0 rfl) ?_
        refine va_get (D := (dC, dI)) (ci := 5) (v := .ref (a 40)) (C := R_Se) (T := T_Se) (N := 7) hx hb ht in_Se hown hK hP 58 rfl rfl 2 (by decide) (ht _ kw_220) (fun _ h9 => h9) rfl d_Se_tryFrom_33 ?_
        refine vp_callSl (va_Run.run (va_runV (As := []) (rest := [.ref (a 58)]) ⟨hx, hb, hml, hown, hts⟩ (c_Wa_greatestSize l dC dI cI cJ cG cZ a fi_25 fl ai_25 al_25 _ hw) (cwV 0 hts (zw_goodV kw_575 kw_576 kw_577 kw_7 kw_578) rfl rfl rfl hd_Wa_greatestSize ⟨zw_geF (by decide) nR, zw_geL (by decide) nR⟩) (zw_preV (ci := 6) (q0 := 40) hK hN hP rfl rfl) rfl rfl hl.1 rfl (lv_room (Nat.le_of_ble_eq_true rfl)) d_Se_tryFrom_36 ⟨Nat.le_refl _, Nat.le_refl _⟩)) (fun r36 hw => ?_)
        refine zw_cv (va_runV (As := [.long r36]) (rest := []) ⟨hx, hb, hml, hown, hts⟩ (c_Se_keepIfLess l dC dI cI cJ cG cZ a H.size fi_25 fl ai_25 al_25 r36 _ hw) (cwV 1 hts (zw_goodV kw_583 kw_585 kw_s15 kw_8 kw_586) rfl rfl rfl hd_Se_keepIfLess ⟨zw_geF (by decide) nR, zw_geL (by decide) nR⟩) (zw_preVw (ci := 5) (q0 := 58) hK hN hP hD rfl rfl) rfl rfl hl.1 rfl (lv_room (Nat.le_of_ble_eq_true rfl)) d_Se_tryFrom_39 ⟨Nat.le_refl _, Nat.le_refl _⟩) hD hS hA (fun fi_39 fl_39 ai_39 al_39 H locs hw hP hD hS => ?_)
        obtain ⟨rfl, hw⟩ := hw
        exact W.vret hx hb hr (fun t ht hW => ⟨⟨(fi_39, fl_39, ai_39, al_25), rfl, hw, by rw [ht]; exact hP, va_K.moved hW.alike hK, hD⟩, hS.F ht⟩) hS.2.2 d_Se_tryFrom_42
    · refine lv_icmp_ge (tgt := 17) hx hb d_Se_tryFrom_8 (by decide) (fun c8 => ?_) (fun c8 => ?_)
      · have hw := zw_ite_t c8 hw
        exact (hj17  hw) H locs ls hP hD hS (lv_sub hl [0] rfl)
      · have hw := zw_ite_f c8 hw
        refine lv_iload_n hx hb d_Se_tryFrom_11 rfl (lv_at hl 1 rfl) ?_
        refine lv_bipush (v := (6 : Int32)) hx hb d_Se_tryFrom_12 (by decide) ?_
        refine lv_icmp_lt (tgt := 43) hx hb d_Se_tryFrom_14 (by decide) (fun c14 => ?_) (fun c14 => ?_)
        · have hw := zw_ite_t c14 hw
          refine lv_iconst (v := (0 : Int32)) hx hb d_Se_tryFrom_43 (by decide) ?_
          refine lv_topi (fun v44 ev44 => ?_)
          have hw := zw_nm_x ev44 hw
          refine lv_istore (lv' := [(4, .int v44), (0, .ref (a 58)), (1, .int p0), (2, .int p1), (3, .int p2)]) hx hb d_Se_tryFrom_44 hl (by decide) rfl (fun ls hl => ?_)
          refine (zw_lp5_i (P := fun (x46_4 : Int32) (fi46 : Nat → Int32) (fl46 : Nat → Int64) (ai46 : Nat → Nat → Int32) (al46 : Nat → Nat → Int64) => ∀ (H : Heap) (locs : List Loc) (ls : Array Slot), va_P (dC, dI) vwCl (cw cI cJ cG cZ a fi46 fl46 ai46 al46) H → va_D A (cw cI cJ cG cZ a fi46 fl46 ai46 al46) → va_S A s.heap H locs → lv_has ls 5 [(0, .ref (a 58)), (1, .int p0), (2, .int p1), (3, .int p2), (4, .int x46_4)] → W p l e (headSpec ws_Se_tryFrom (zw_recR (nR + 1))).room s m ([.ref (a 58), .int p0, .int p1, .int p2] : List Value).toArray below meth c H locs 0 0 (MQ below (va_Qv (fun (u : zw_Z) => (zw_k_fi_fl_ai_alv  K) u.1 u.2.1 u.2.2.1 u.2.2.2) (fun u t => zw_E (dC, dI) vwCl [(cI, .int), (cJ, .long), (cG, .array .int), (cZ, .boolean)] A (cw cI cJ cG cZ a u.1 u.2.1 u.2.2.1 u.2.2.2) t) A) ([.ref (a 58), .int p0, .int p1, .int p2] : List Value).toArray s 0 0 A) (F0 m 46 ls [])) hw (fun L46 x46_4 fi46 fl46 ai46 al46 ih46 hw H locs ls hP hD hS hl => ?_)) H locs ls hP hD hS (lv_sub hl [1, 2, 3, 4, 0] rfl)
          refine lv_iload hx hb d_Se_tryFrom_46 (lv_at hl 4 rfl) ?_
          refine lv_aload_n hx hb d_Se_tryFrom_48 rfl (lv_at hl 0 rfl) ?_
          refine va_get (D := (dC, dI)) (ci := 5) (v := .ref (a 19)) (C := R_Se) (T := T_Se) (N := 7) hx hb ht in_Se hown hK hP 58 rfl rfl 0 (by decide) (ht _ kw_218) (fun _ h9 => h9) rfl d_Se_tryFrom_49 ?_
          refine va_get (D := (dC, dI)) (ci := 2) (v := .int (fi46 7)) (C := R_Gi) (T := T_Gi) (N := 7) hx hb ht in_Gi hown hK hP 19 rfl rfl 0 (by decide) (ht _ kw_135) (fun _ h9 => h9) rfl d_Se_tryFrom_52 ?_
          refine lv_icmp_ge (tgt := 112) hx hb d_Se_tryFrom_55 (by decide) (fun c55 => ?_) (fun c55 => ?_)
          · have hw := zw_ite_t c55 hw
            exact W.vret hx hb hr (fun t ht hW => ⟨⟨(fi46, fl46, ai46, al46), rfl, hw, by rw [ht]; exact hP, va_K.moved hW.alike hK, hD⟩, hS.F ht⟩) hS.2.2 d_Se_tryFrom_112
          · have hw := zw_ite_f c55 hw
            refine lv_iload_n hx hb d_Se_tryFrom_58 rfl (lv_at hl 2 rfl) ?_
            refine lv_iload_n hx hb d_Se_tryFrom_59 rfl (lv_at hl 3 rfl) ?_
            refine lv_iconst (v := (-1 : Int32)) hx hb d_Se_tryFrom_60 (by decide) ?_
            refine lv_ixor hx hb d_Se_tryFrom_61 ?_
            refine lv_iand hx hb d_Se_tryFrom_62 ?_
            refine lv_iload hx hb d_Se_tryFrom_63 (lv_at hl 4 rfl) ?_
            refine vp_callSi (va_Run.run (va_runSN (As := [.int (p1 &&& (p2 ^^^ (-1 : Int32))), .int x46_4]) (rest := []) ⟨hx, hb, hml, hown, hts⟩ (c_SS_hasBit l (p1 &&& (p2 ^^^ (-1 : Int32))) x46_4 _ hw) ⟨va_cnB 2 hts (zw_goodC kw_321) rfl rfl rfl (hN _ nw_590) (ht _ kw_1) hd_SS_hasBit.2 ⟨zw_geF (by decide) nR, zw_geL (by decide) nR⟩, ht _ kw_320, trivial⟩ zw_preS0 rfl rfl hl.1 rfl (lv_room (Nat.le_of_ble_eq_true rfl)) d_Se_tryFrom_65 ⟨Nat.le_refl _, Nat.le_refl _⟩)) (fun r65 hw => ?_)
            refine zw_jn4_i (P := fun (fi106 : Nat → Int32) (fl106 : Nat → Int64) (ai106 : Nat → Nat → Int32) (al106 : Nat → Nat → Int64) => ∀ (H : Heap) (locs : List Loc) (ls : Array Slot), va_P (dC, dI) vwCl (cw cI cJ cG cZ a fi106 fl106 ai106 al106) H → va_D A (cw cI cJ cG cZ a fi106 fl106 ai106 al106) → va_S A s.heap H locs → lv_has ls 5 [(0, .ref (a 58)), (1, .int p0), (2, .int p1), (3, .int p2), (4, .int x46_4)] → W p l e (headSpec ws_Se_tryFrom (zw_recR (nR + 1))).room s m ([.ref (a 58), .int p0, .int p1, .int p2] : List Value).toArray below meth c H locs 0 0 (MQ below (va_Qv (fun (u : zw_Z) => (zw_k_fi_fl_ai_alv  K) u.1 u.2.1 u.2.2.1 u.2.2.2) (fun u t => zw_E (dC, dI) vwCl [(cI, .int), (cJ, .long), (cG, .array .int), (cZ, .boolean)] A (cw cI cJ cG cZ a u.1 u.2.1 u.2.2.1 u.2.2.2) t) A) ([.ref (a 58), .int p0, .int p1, .int p2] : List Value).toArray s 0 0 A) (F0 m 106 ls [])) hw (fun fi106 fl106 ai106 al106 hw H locs ls hP hD hS hl => ?_) (fun J106 hj106 hw => ?_)
            · obtain ⟨v106, ev106⟩ : ∃ y : Int32, y = x46_4 + (1 : Int32) := ⟨_, rfl⟩
              refine lv_iinc (v := v106) (lv' := [(4, .int v106), (0, .ref (a 58)), (1, .int p0), (2, .int p1), (3, .int p2)]) hx hb d_Se_tryFrom_106 hl (k := 4) rfl (by rw [ev106]; rfl) (by decide) rfl (fun ls hl => ?_)
              have hw := zw_nm_x ev106 hw
              refine lv_goto (tgt := 46) hx hb d_Se_tryFrom_109 (by decide) ?_
              exact (ih46 v106 fi106 fl106 ai106 al106 hw) H locs ls hP hD hS (lv_sub hl [1, 2, 3, 4, 0] rfl)
            · refine lv_if_eq (tgt := 106) hx hb d_Se_tryFrom_68 (by decide) (fun c68 => ?_) (fun c68 => ?_)
              · have hw := zw_ite_t c68 hw
                exact (hj106 fi46 fl46 ai46 al46 hw) H locs ls hP hD hS (lv_sub hl [0, 1, 2, 3, 4] rfl)
              · have hw := zw_ite_f c68 hw
                refine lv_aload_n hx hb d_Se_tryFrom_71 rfl (lv_at hl 0 rfl) ?_
                refine va_get (D := (dC, dI)) (ci := 5) (v := .ref (a 19)) (C := R_Se) (T := T_Se) (N := 7) hx hb ht in_Se hown hK hP 58 rfl rfl 0 (by decide) (ht _ kw_218) (fun _ h9 => h9) rfl d_Se_tryFrom_72 ?_
                refine lv_iload hx hb d_Se_tryFrom_75 (lv_at hl 4 rfl) ?_
                refine lv_iload_n hx hb d_Se_tryFrom_77 rfl (lv_at hl 3 rfl) ?_
                refine vp_callSi (va_Run.run (va_runV (As := [.int x46_4, .int p2]) (rest := []) ⟨hx, hb, hml, hown, hts⟩ (c_Gi_mayFollow l dC dI cI cJ cG cZ a fi46 fl46 ai46 al46 x46_4 p2 _ hw) (cwV 2 hts (zw_goodV kw_591 kw_371 kw_372 kw_5 kw_373) rfl rfl rfl hd_Gi_mayFollow ⟨zw_geF (by decide) nR, zw_geL (by decide) nR⟩) (zw_preV (ci := 2) (q0 := 19) hK hN hP rfl rfl) rfl rfl hl.1 rfl (lv_room (Nat.le_of_ble_eq_true rfl)) d_Se_tryFrom_78 ⟨Nat.le_refl _, Nat.le_refl _⟩)) (fun r78 hw => ?_)
                refine lv_if_eq (tgt := 106) hx hb d_Se_tryFrom_81 (by decide) (fun c81 => ?_) (fun c81 => ?_)
                · have hw := zw_ite_t c81 hw
                  exact (hj106 fi46 fl46 ai46 al46 hw) H locs ls hP hD hS (lv_sub hl [0, 1, 2, 3, 4] rfl)
                · have hw := zw_ite_f c81 hw
                  refine lv_aload_n hx hb d_Se_tryFrom_84 rfl (lv_at hl 0 rfl) ?_
                  refine va_get (D := (dC, dI)) (ci := 5) (v := .ref (a 59)) (C := R_Se) (T := T_Se) (N := 7) hx hb ht in_Se hown hK hP 58 rfl rfl 3 (by decide) (ht _ kw_221) (fun _ h9 => h9) rfl d_Se_tryFrom_85 ?_
                  refine lv_iload_n hx hb d_Se_tryFrom_88 rfl (lv_at hl 1 rfl) ?_
                  refine lv_iload hx hb d_Se_tryFrom_89 (lv_at hl 4 rfl) ?_
                  obtain ⟨h91, hw⟩ := hw
                  refine va_iast (f := ai46 59) hx hb hK hP hD hS 59 0 rfl rfl h91 d_Se_tryFrom_91 (fun H locs hP hD hS => ?_)
                  have hP := cwpai_59 hP
                  have hD := cwdai_59 hD
                  obtain ⟨ai_91, eai_91⟩ : ∃ z, z = va_up ai46 59 (upd (ai46 59) p0.toNatClampNeg x46_4) := ⟨_, rfl⟩
                  rw [← eai_91] at hP hD
                  have hw := zw_nm_x eai_91 hw
                  refine lv_aload_n hx hb d_Se_tryFrom_92 rfl (lv_at hl 0 rfl) ?_
                  refine lv_iload_n hx hb d_Se_tryFrom_93 rfl (lv_at hl 1 rfl) ?_
                  refine lv_iconst (v := (1 : Int32)) hx hb d_Se_tryFrom_94 (by decide) ?_
                  refine lv_iadd hx hb d_Se_tryFrom_95 ?_
                  refine lv_iload_n hx hb d_Se_tryFrom_96 rfl (lv_at hl 2 rfl) ?_
                  refine lv_iload_n hx hb d_Se_tryFrom_97 rfl (lv_at hl 3 rfl) ?_
                  refine lv_iconst (v := (1 : Int32)) hx hb d_Se_tryFrom_98 (by decide) ?_
                  refine lv_iload hx hb d_Se_tryFrom_99 (lv_at hl 4 rfl) ?_
                  refine lv_ishl hx hb d_Se_tryFrom_101 ?_
                  refine lv_ior hx hb d_Se_tryFrom_102 ?_
                  refine zw_cv (va_runV (As := [.int (p0 + (1 : Int32)), .int p1, .int (p2 ||| ((1 : Int32) <<< (x46_4 &&& 31)))]) (rest := []) ⟨hx, hb, hml, hown, hts⟩ (ihR dC dI cI cJ cG cZ a H.size fi46 fl46 ai_91 al46 (p0 + (1 : Int32)) p1 (p2 ||| ((1 : Int32) <<< (x46_4 &&& 31))) _ hw) (cwV 3 hts (zw_goodV kw_570 kw_572 kw_s14 kw_8 kw_573) rfl rfl rfl hd_Se_tryFrom ⟨zw_recF nR, zw_recL nR⟩) (zw_preVw (ci := 5) (q0 := 58) hK hN hP hD rfl rfl) rfl rfl hl.1 rfl (lv_room (Nat.le_of_ble_eq_true rfl)) d_Se_tryFrom_103 ⟨Nat.le_refl _, Nat.le_refl _⟩) hD hS hA (fun fi_103 fl_103 ai_103 al_103 H locs hw hP hD hS => ?_)
                  have hw := hw
                  exact (hj106 fi_103 fl_103 ai_103 al_103 hw) H locs ls hP hD hS (lv_sub hl [0, 1, 2, 3, 4] rfl)
        · have hw := zw_ite_f c14 hw
          exact (hj17  hw) H locs ls hP hD hS (lv_sub hl [0] rfl)
  rw [hH, hlo] at key
  exact key
def Se_leastGreatest_w (fi : Nat → Int32) (fl : Nat → Int64) (ai : Nat → Nat → Int32) (al : Nat → Nat → Int64) (K : Int64 → (Nat → Int32) → (Nat → Int64) → (Nat → Nat → Int32) → (Nat → Nat → Int64) → Prop) : Prop :=
  zw_nm (va_up fl 0 (-1 : Int64)) (fun (fl_4 : Nat → Int64) =>
  Pl_endDay_w fi fl_4 ai al  (fun (r24 : Int32) =>
  Wa_aim_w fi fl_4 ai al ((fi 2) - (1 : Int32)) r24 (fun (fi_27 : Nat → Int32) (ai_27 : Nat → Nat → Int32) =>
  Pl_partBits_w fi_27 fl_4 ai_27 al  (fun (r36 : Int32) =>
  Se_tryFrom_w 7 fi_27 fl_4 ai_27 al (0 : Int32) r36 (0 : Int32) (fun (fi_40 : Nat → Int32) (fl_40 : Nat → Int64) (ai_40 : Nat → Nat → Int32) (al_40 : Nat → Nat → Int64) =>
  K (fl_40 0) fi_40 fl_40 ai_40 al_40)))))
theorem d_Se_leastGreatest_0 : decode b_Se_leastGreatest 0 = .ok (.aload_n 0, 1) := by decide +kernel
theorem d_Se_leastGreatest_1 : decode b_Se_leastGreatest 1 = .ok (.ldc2_w 30, 3) := by decide +kernel
theorem d_Se_leastGreatest_4 : decode b_Se_leastGreatest 4 = .ok (.putfield 32, 3) := by decide +kernel
theorem d_Se_leastGreatest_7 : decode b_Se_leastGreatest 7 = .ok (.aload_n 0, 1) := by decide +kernel
theorem d_Se_leastGreatest_8 : decode b_Se_leastGreatest 8 = .ok (.getfield 26, 3) := by decide +kernel
theorem d_Se_leastGreatest_11 : decode b_Se_leastGreatest 11 = .ok (.aload_n 0, 1) := by decide +kernel
theorem d_Se_leastGreatest_12 : decode b_Se_leastGreatest 12 = .ok (.getfield 22, 3) := by decide +kernel
theorem d_Se_leastGreatest_15 : decode b_Se_leastGreatest 15 = .ok (.getfield 36, 3) := by decide +kernel
theorem d_Se_leastGreatest_18 : decode b_Se_leastGreatest 18 = .ok (.iconst 1, 1) := by decide +kernel
theorem d_Se_leastGreatest_19 : decode b_Se_leastGreatest 19 = .ok (.isub, 1) := by decide +kernel
theorem d_Se_leastGreatest_20 : decode b_Se_leastGreatest 20 = .ok (.aload_n 0, 1) := by decide +kernel
theorem d_Se_leastGreatest_21 : decode b_Se_leastGreatest 21 = .ok (.getfield 22, 3) := by decide +kernel
theorem d_Se_leastGreatest_24 : decode b_Se_leastGreatest 24 = .ok (.invokevirtual 42, 3) := by decide +kernel
theorem d_Se_leastGreatest_27 : decode b_Se_leastGreatest 27 = .ok (.invokevirtual 46, 3) := by decide +kernel
theorem d_Se_leastGreatest_30 : decode b_Se_leastGreatest 30 = .ok (.aload_n 0, 1) := by decide +kernel
theorem d_Se_leastGreatest_31 : decode b_Se_leastGreatest 31 = .ok (.iconst 0, 1) := by decide +kernel
theorem d_Se_leastGreatest_32 : decode b_Se_leastGreatest 32 = .ok (.aload_n 0, 1) := by decide +kernel
theorem d_Se_leastGreatest_33 : decode b_Se_leastGreatest 33 = .ok (.getfield 22, 3) := by decide +kernel
theorem d_Se_leastGreatest_36 : decode b_Se_leastGreatest 36 = .ok (.invokevirtual 52, 3) := by decide +kernel
theorem d_Se_leastGreatest_39 : decode b_Se_leastGreatest 39 = .ok (.iconst 0, 1) := by decide +kernel
theorem d_Se_leastGreatest_40 : decode b_Se_leastGreatest 40 = .ok (.invokevirtual 55, 3) := by decide +kernel
theorem d_Se_leastGreatest_43 : decode b_Se_leastGreatest 43 = .ok (.aload_n 0, 1) := by decide +kernel
theorem d_Se_leastGreatest_44 : decode b_Se_leastGreatest 44 = .ok (.getfield 32, 3) := by decide +kernel
theorem d_Se_leastGreatest_47 : decode b_Se_leastGreatest 47 = .ok (.lreturn, 1) := by decide +kernel
set_option maxHeartbeats 4000000 in
set_option maxRecDepth 100000 in
theorem c_Se_leastGreatest (l : Launch) (dC : Nat → ClassId) (dI : Nat → Nat → Nat) (cI cJ cG cZ : ClassId) (a : Nat → Nat) (sz : Nat) (fi : Nat → Int32) (fl : Nat → Int64) (ai : Nat → Nat → Int32) (al : Nat → Nat → Int64) (K : Int64 → (Nat → Int32) → (Nat → Int64) → (Nat → Nat → Int32) → (Nat → Nat → Int64) → Prop) (hw : Se_leastGreatest_w fi fl ai al K) : Met l y_Se_leastGreatest ws_Se_leastGreatest ({ frames := 12, cells := 0, slots := 0, locals := 286 }) (va_Pc [.ref (a 58)] (zw_Bw (dC, dI) vwCl [(cI, .int), (cJ, .long), (cG, .array .int), (cZ, .boolean)] (cw cI cJ cG cZ a fi fl ai al) sz)) (va_Ql (fun r (u : zw_Z) => (zw_k_fi_fl_ai_alr  K) r u.1 u.2.1 u.2.2.1 u.2.2.2) (fun u t => zw_E (dC, dI) vwCl [(cI, .int), (cJ, .long), (cG, .array .int), (cZ, .boolean)] (va_A (cw cI cJ cG cZ a fi fl ai al) sz) (cw cI cJ cG cZ a u.1 u.2.1 u.2.2.1 u.2.2.2) t) (va_A (cw cI cJ cG cZ a fi fl ai al) sz)) 0 0 (va_A (cw cI cJ cG cZ a fi fl ai al) sz) := by
  refine Met.ofW (cc := b_Se_leastGreatest) (maxL := 1) (ret := (Option.some FieldType.long)) (by decide) rfl ?_
  intro p e s m args below meth c s₁ B hml hv
  obtain ⟨rfl, hsz, hP, hK, hD0, hN⟩ := hv
  have hx := B.exec
  have hb := B.bytes
  have hr := B.returns
  have hts := atoms_spec (ws := ws_Se_leastGreatest) B.pre
  have ht : ∀ w ∈ zw_tbl, w.before _ s = true := fun w h => hts w (List.mem_cons_of_mem _ h)
  have hown : s.vm.findClass R_Se = some m.cls := findClass_of_methodNamed B.named
  have hlocks := B.notSynchronized
  subst hsz
  have hD := hD0.self (sz := s.heap.size)
  generalize hAe : va_A (cw cI cJ cG cZ a fi fl ai al) s.heap.size = A at hD ⊢
  have hA : ∀ q : Nat, s.heap.size ≤ q → A q := fun q h => by rw [← hAe]; exact Or.inr h
  have hS : va_S A s.heap s.heap [] := va_S.rf
  have hl := lv_entry ([.ref (a 58)] : List Value) (n := 1) (Nat.le_of_ble_eq_true rfl)
  rw [lg_entry_eq]
  generalize (lg_sl ([.ref (a 58)] : List Value) ++ List.replicate (1 - (lg_sl ([.ref (a 58)] : List Value)).length) Slot.unset).toArray = ls at hl ⊢
  have hl : lv_has ls 1 [(0, .ref (a 58))] := hl
  unfold Se_leastGreatest_w at hw
  obtain ⟨H, hH⟩ : ∃ H, H = s.heap := ⟨_, rfl⟩
  obtain ⟨locs, hlo⟩ : ∃ q : List Loc, q = [] := ⟨_, rfl⟩
  have hP : va_P (dC, dI) vwCl (cw cI cJ cG cZ a fi fl ai al) H := by rw [hH]; exact hP
  have hS : va_S A s.heap H locs := by rw [hH, hlo]; exact hS
  have key : W p l e (headSpec ws_Se_leastGreatest ({ frames := 12, cells := 0, slots := 0, locals := 286 })).room s m ([.ref (a 58)] : List Value).toArray below meth c H locs 0 0 (MQ below (va_Ql (fun r (u : zw_Z) => (zw_k_fi_fl_ai_alr  K) r u.1 u.2.1 u.2.2.1 u.2.2.2) (fun u t => zw_E (dC, dI) vwCl [(cI, .int), (cJ, .long), (cG, .array .int), (cZ, .boolean)] A (cw cI cJ cG cZ a u.1 u.2.1 u.2.2.1 u.2.2.2) t) A) ([.ref (a 58)] : List Value).toArray s 0 0 A) (F0 m 0 ls []) := by
    refine lv_aload_n hx hb d_Se_leastGreatest_0 rfl (lv_at hl 0 rfl) ?_
    refine lv_ldc2 (v := (-1 : Int64)) hx hb hown (hts (.constantLong R_Se 30 (-1 : Int64)) (by decide +kernel)) d_Se_leastGreatest_1 ?_
    refine va_put (D := (dC, dI)) (ci := 5) (v := .long (-1 : Int64)) (ty := .long) (C := R_Se) (T := T_Se) (N := 7) hx hb ht in_Se t_Se t_Se_ok n_Se hown hK hP hD hS 58 rfl rfl 6 (by decide) (ht _ kw_226) (fun _ h9 => h9) rfl (by decide +kernel) rfl rfl (Nat.le_of_ble_eq_true rfl) d_Se_leastGreatest_4 (fun H locs hP hD hS => ?_)
    have hP := cwpfl_0 hP
    have hD := cwdfl_0 hD
    obtain ⟨fl_4, efl_4⟩ : ∃ z, z = va_up fl 0 (-1 : Int64) := ⟨_, rfl⟩
    rw [← efl_4] at hP hD
    have hw := zw_nm_x efl_4 hw
    refine lv_aload_n hx hb d_Se_leastGreatest_7 rfl (lv_at hl 0 rfl) ?_
    refine va_get (D := (dC, dI)) (ci := 5) (v := .ref (a 40)) (C := R_Se) (T := T_Se) (N := 7) hx hb ht in_Se hown hK hP 58 rfl rfl 2 (by decide) (ht _ kw_220) (fun _ h9 => h9) rfl d_Se_leastGreatest_8 ?_
    refine lv_aload_n hx hb d_Se_leastGreatest_11 rfl (lv_at hl 0 rfl) ?_
    refine va_get (D := (dC, dI)) (ci := 5) (v := .ref (a 4)) (C := R_Se) (T := T_Se) (N := 7) hx hb ht in_Se hown hK hP 58 rfl rfl 1 (by decide) (ht _ kw_219) (fun _ h9 => h9) rfl d_Se_leastGreatest_12 ?_
    refine va_get (D := (dC, dI)) (ci := 3) (v := .int (fi 2)) (C := R_Pl) (T := T_Pl) (N := 11) hx hb ht in_Pl hown hK hP 4 rfl rfl 7 (by decide) (ht _ kw_61) (fun _ h9 => h9) rfl d_Se_leastGreatest_15 ?_
    refine lv_iconst (v := (1 : Int32)) hx hb d_Se_leastGreatest_18 (by decide) ?_
    refine lv_isub hx hb d_Se_leastGreatest_19 ?_
    refine lv_aload_n hx hb d_Se_leastGreatest_20 rfl (lv_at hl 0 rfl) ?_
    refine va_get (D := (dC, dI)) (ci := 5) (v := .ref (a 4)) (C := R_Se) (T := T_Se) (N := 7) hx hb ht in_Se hown hK hP 58 rfl rfl 1 (by decide) (ht _ kw_219) (fun _ h9 => h9) rfl d_Se_leastGreatest_21 ?_
    refine vp_callSi (va_Run.run (va_runV (As := []) (rest := [.int ((fi 2) - (1 : Int32)), .ref (a 40)]) ⟨hx, hb, hml, hown, hts⟩ (c_Pl_endDay l dC dI cI cJ cG cZ a fi fl_4 ai al _ hw) (cwV 0 hts (zw_goodV kw_567 kw_428 kw_429 kw_3 kw_430) rfl rfl rfl hd_Pl_endDay ⟨Nat.le_of_ble_eq_true rfl, Nat.le_of_ble_eq_true rfl⟩) (zw_preV (ci := 3) (q0 := 4) hK hN hP rfl rfl) rfl rfl hl.1 rfl (lv_room (Nat.le_of_ble_eq_true rfl)) d_Se_leastGreatest_24 ⟨Nat.le_of_ble_eq_true rfl, Nat.le_of_ble_eq_true rfl⟩)) (fun r24 hw => ?_)
    refine zw_cv (va_runV (As := [.int ((fi 2) - (1 : Int32)), .int r24]) (rest := []) ⟨hx, hb, hml, hown, hts⟩ (c_Wa_aim l dC dI cI cJ cG cZ a H.size fi fl_4 ai al ((fi 2) - (1 : Int32)) r24 _ hw) (cwV 2 hts (zw_goodV kw_568 kw_433 kw_434 kw_7 kw_435) rfl rfl rfl hd_Wa_aim ⟨Nat.le_of_ble_eq_true rfl, Nat.le_of_ble_eq_true rfl⟩) (zw_preVw (ci := 6) (q0 := 40) hK hN hP hD rfl rfl) rfl rfl hl.1 rfl (lv_room (Nat.le_of_ble_eq_true rfl)) d_Se_leastGreatest_27 ⟨Nat.le_of_ble_eq_true rfl, Nat.le_of_ble_eq_true rfl⟩) hD hS hA (fun fi_27 fl_27 ai_27 al_27 H locs hw hP hD hS => ?_)
    obtain ⟨rfl, rfl, hw⟩ := hw
    refine lv_aload_n hx hb d_Se_leastGreatest_30 rfl (lv_at hl 0 rfl) ?_
    refine lv_iconst (v := (0 : Int32)) hx hb d_Se_leastGreatest_31 (by decide) ?_
    refine lv_aload_n hx hb d_Se_leastGreatest_32 rfl (lv_at hl 0 rfl) ?_
    refine va_get (D := (dC, dI)) (ci := 5) (v := .ref (a 4)) (C := R_Se) (T := T_Se) (N := 7) hx hb ht in_Se hown hK hP 58 rfl rfl 1 (by decide) (ht _ kw_219) (fun _ h9 => h9) rfl d_Se_leastGreatest_33 ?_
    refine vp_callSi (va_Run.run (va_runV (As := []) (rest := [.int (0 : Int32), .ref (a 58)]) ⟨hx, hb, hml, hown, hts⟩ (c_Pl_partBits l dC dI cI cJ cG cZ a fi_27 fl_4 ai_27 al _ hw) (cwV 0 hts (zw_goodV kw_569 kw_367 kw_368 kw_3 kw_369) rfl rfl rfl hd_Pl_partBits ⟨Nat.le_of_ble_eq_true rfl, Nat.le_of_ble_eq_true rfl⟩) (zw_preV (ci := 3) (q0 := 4) hK hN hP rfl rfl) rfl rfl hl.1 rfl (lv_room (Nat.le_of_ble_eq_true rfl)) d_Se_leastGreatest_36 ⟨Nat.le_of_ble_eq_true rfl, Nat.le_of_ble_eq_true rfl⟩)) (fun r36 hw => ?_)
    refine lv_iconst (v := (0 : Int32)) hx hb d_Se_leastGreatest_39 (by decide) ?_
    refine zw_cv (va_runV (As := [.int (0 : Int32), .int r36, .int (0 : Int32)]) (rest := []) ⟨hx, hb, hml, hown, hts⟩ (c_Se_tryFrom 7 l dC dI cI cJ cG cZ a H.size fi_27 fl_4 ai_27 al (0 : Int32) r36 (0 : Int32) _ hw) (cwV 3 hts (zw_goodV kw_570 kw_572 kw_s14 kw_8 kw_573) rfl rfl rfl hd_Se_tryFrom ⟨Nat.le_of_ble_eq_true rfl, Nat.le_of_ble_eq_true rfl⟩) (zw_preVw (ci := 5) (q0 := 58) hK hN hP hD rfl rfl) rfl rfl hl.1 rfl (lv_room (Nat.le_of_ble_eq_true rfl)) d_Se_leastGreatest_40 ⟨Nat.le_of_ble_eq_true rfl, Nat.le_of_ble_eq_true rfl⟩) hD hS hA (fun fi_40 fl_40 ai_40 al_40 H locs hw hP hD hS => ?_)
    have hw := hw
    refine lv_aload_n hx hb d_Se_leastGreatest_43 rfl (lv_at hl 0 rfl) ?_
    refine va_get (D := (dC, dI)) (ci := 5) (v := .long (fl_40 0)) (C := R_Se) (T := T_Se) (N := 7) hx hb ht in_Se hown hK hP 58 rfl rfl 6 (by decide) (ht _ kw_226) (fun _ h9 => h9) rfl d_Se_leastGreatest_44 ?_
    exact W.lret (v := (fl_40 0)) hx hb hr (fun t ht hW => ⟨⟨(fl_40 0), (fi_40, fl_40, ai_40, al_40), rfl, hw, by rw [ht]; exact hP, va_K.moved hW.alike hK, hD⟩, hS.F ht⟩) hS.2.2 d_Se_leastGreatest_47
  rw [hH, hlo] at key
  exact key
