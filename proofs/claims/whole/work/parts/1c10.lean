def SS_best_w (fi : Nat → Int32) (fl : Nat → Int64) (ai : Nat → Nat → Int32) (al : Nat → Nat → Int64) (K : Int64 → (Nat → Int32) → (Nat → Int64) → (Nat → Nat → Int32) → (Nat → Nat → Int64) → Prop) : Prop :=
  if (fi 4) = 0 then (
    K (-1000000000000000000 : Int64) fi fl ai al)
  else (
    Se_leastGreatest_w fi fl ai al  (fun (r18 : Int64) (fi_18 : Nat → Int32) (fl_18 : Nat → Int64) (ai_18 : Nat → Nat → Int32) (al_18 : Nat → Nat → Int64) =>
    K r18 fi_18 fl_18 ai_18 al_18))
theorem d_SS_best_0 : decode b_SS_best 0 = .ok (.aload_n 0, 1) := by decide +kernel
theorem d_SS_best_1 : decode b_SS_best 1 = .ok (.getfield 19, 3) := by decide +kernel
theorem d_SS_best_4 : decode b_SS_best 4 = .ok (.getfield 228, 3) := by decide +kernel
theorem d_SS_best_7 : decode b_SS_best 7 = .ok (.ifCond .ne (7), 3) := by decide +kernel
theorem d_SS_best_10 : decode b_SS_best 10 = .ok (.ldc2_w 128, 3) := by decide +kernel
theorem d_SS_best_13 : decode b_SS_best 13 = .ok (.lreturn, 1) := by decide +kernel
theorem d_SS_best_14 : decode b_SS_best 14 = .ok (.aload_n 0, 1) := by decide +kernel
theorem d_SS_best_15 : decode b_SS_best 15 = .ok (.getfield 73, 3) := by decide +kernel
theorem d_SS_best_18 : decode b_SS_best 18 = .ok (.invokevirtual 231, 3) := by decide +kernel
theorem d_SS_best_21 : decode b_SS_best 21 = .ok (.lreturn, 1) := by decide +kernel
set_option maxHeartbeats 4000000 in
set_option maxRecDepth 100000 in
theorem c_SS_best (l : Launch) (dC : Nat → ClassId) (dI : Nat → Nat → Nat) (cI cJ cG cZ : ClassId) (a : Nat → Nat) (sz : Nat) (fi : Nat → Int32) (fl : Nat → Int64) (ai : Nat → Nat → Int32) (al : Nat → Nat → Int64) (K : Int64 → (Nat → Int32) → (Nat → Int64) → (Nat → Nat → Int32) → (Nat → Nat → Int64) → Prop) (hw : SS_best_w fi fl ai al K) : Met l y_SS_best ws_SS_best ({ frames := 13, cells := 0, slots := 0, locals := 306 }) (va_Pc [.ref (a 0)] (zw_Bw (dC, dI) vwCl [(cI, .int), (cJ, .long), (cG, .array .int), (cZ, .boolean)] (cw cI cJ cG cZ a fi fl ai al) sz)) (va_Ql (fun r (u : zw_Z) => (zw_k_fi_fl_ai_alr  K) r u.1 u.2.1 u.2.2.1 u.2.2.2) (fun u t => zw_E (dC, dI) vwCl [(cI, .int), (cJ, .long), (cG, .array .int), (cZ, .boolean)] (va_A (cw cI cJ cG cZ a fi fl ai al) sz) (cw cI cJ cG cZ a u.1 u.2.1 u.2.2.1 u.2.2.2) t) (va_A (cw cI cJ cG cZ a fi fl ai al) sz)) 0 0 (va_A (cw cI cJ cG cZ a fi fl ai al) sz) := by
  refine Met.ofW (cc := b_SS_best) (maxL := 1) (ret := (Option.some FieldType.long)) (by decide) rfl ?_
  intro p e s m args below meth c s₁ B hml hv
  obtain ⟨rfl, hsz, hP, hK, hD0, hN⟩ := hv
  have hx := B.exec
  have hb := B.bytes
  have hr := B.returns
  have hts := atoms_spec (ws := ws_SS_best) B.pre
  have ht : ∀ w ∈ zw_tbl, w.before _ s = true := fun w h => hts w (List.mem_cons_of_mem _ h)
  have hown : s.vm.findClass R_SS = some m.cls := findClass_of_methodNamed B.named
  have hlocks := B.notSynchronized
  subst hsz
  have hD := hD0.self (sz := s.heap.size)
  generalize hAe : va_A (cw cI cJ cG cZ a fi fl ai al) s.heap.size = A at hD ⊢
  have hA : ∀ q : Nat, s.heap.size ≤ q → A q := fun q h => by rw [← hAe]; exact Or.inr h
  have hS : va_S A s.heap s.heap [] := va_S.rf
  have hl := lv_entry ([.ref (a 0)] : List Value) (n := 1) (Nat.le_of_ble_eq_true rfl)
  rw [lg_entry_eq]
  generalize (lg_sl ([.ref (a 0)] : List Value) ++ List.replicate (1 - (lg_sl ([.ref (a 0)] : List Value)).length) Slot.unset).toArray = ls at hl ⊢
  have hl : lv_has ls 1 [(0, .ref (a 0))] := hl
  unfold SS_best_w at hw
  obtain ⟨H, hH⟩ : ∃ H, H = s.heap := ⟨_, rfl⟩
  obtain ⟨locs, hlo⟩ : ∃ q : List Loc, q = [] := ⟨_, rfl⟩
  have hP : va_P (dC, dI) vwCl (cw cI cJ cG cZ a fi fl ai al) H := by rw [hH]; exact hP
  have hS : va_S A s.heap H locs := by rw [hH, hlo]; exact hS
  have key : W p l e (headSpec ws_SS_best ({ frames := 13, cells := 0, slots := 0, locals := 306 })).room s m ([.ref (a 0)] : List Value).toArray below meth c H locs 0 0 (MQ below (va_Ql (fun r (u : zw_Z) => (zw_k_fi_fl_ai_alr  K) r u.1 u.2.1 u.2.2.1 u.2.2.2) (fun u t => zw_E (dC, dI) vwCl [(cI, .int), (cJ, .long), (cG, .array .int), (cZ, .boolean)] A (cw cI cJ cG cZ a u.1 u.2.1 u.2.2.1 u.2.2.2) t) A) ([.ref (a 0)] : List Value).toArray s 0 0 A) (F0 m 0 ls []) := by
    refine lv_aload_n hx hb d_SS_best_0 rfl (lv_at hl 0 rfl) ?_
    refine va_get (D := (dC, dI)) (ci := 0) (v := .ref (a 4)) (C := R_SS) (T := T_SS) (N := 9) hx hb ht in_SS hown hK hP 0 rfl rfl 2 (by decide) (ht _ kw_244) (fun _ h9 => h9) rfl d_SS_best_1 ?_
    refine va_get (D := (dC, dI)) (ci := 3) (v := .int (fi 4)) (C := R_Pl) (T := T_Pl) (N := 11) hx hb ht in_Pl hown hK hP 4 rfl rfl 9 (by decide) (ht _ kw_69) (fun _ h9 => h9) rfl d_SS_best_4 ?_
    refine lv_if_ne (tgt := 14) hx hb d_SS_best_7 (by decide) (fun c7 => ?_) (fun c7 => ?_)
    · have hw := zw_ite_f c7 hw
      refine lv_aload_n hx hb d_SS_best_14 rfl (lv_at hl 0 rfl) ?_
      refine va_get (D := (dC, dI)) (ci := 0) (v := .ref (a 58)) (C := R_SS) (T := T_SS) (N := 9) hx hb ht in_SS hown hK hP 0 rfl rfl 5 (by decide) (ht _ kw_247) (fun _ h9 => h9) rfl d_SS_best_15 ?_
      refine zw_cl (va_runV (As := []) (rest := []) ⟨hx, hb, hml, hown, hts⟩ (c_Se_leastGreatest l dC dI cI cJ cG cZ a H.size fi fl ai al _ hw) (cwV 0 hts (zw_goodV kw_562 kw_563 kw_564 kw_8 kw_565) rfl rfl rfl hd_Se_leastGreatest ⟨Nat.le_of_ble_eq_true rfl, Nat.le_of_ble_eq_true rfl⟩) (zw_preVw (ci := 5) (q0 := 58) hK hN hP hD rfl rfl) rfl rfl hl.1 rfl (lv_room (Nat.le_of_ble_eq_true rfl)) d_SS_best_18 ⟨Nat.le_of_ble_eq_true rfl, Nat.le_of_ble_eq_true rfl⟩) hD hS hA (fun r18 fi_18 fl_18 ai_18 al_18 H locs hw hP hD hS => ?_)
      have hw := hw
      exact W.lret (v := r18) hx hb hr (fun t ht hW => ⟨⟨r18, (fi_18, fl_18, ai_18, al_18), rfl, hw, by rw [ht]; exact hP, va_K.moved hW.alike hK, hD⟩, hS.F ht⟩) hS.2.2 d_SS_best_21
    · have hw := zw_ite_t c7 hw
      refine lv_ldc2 (v := (-1000000000000000000 : Int64)) hx hb hown (hts (.constantLong R_SS 128 (-1000000000000000000 : Int64)) (by decide +kernel)) d_SS_best_10 ?_
      exact W.lret (v := (-1000000000000000000 : Int64)) hx hb hr (fun t ht hW => ⟨⟨(-1000000000000000000 : Int64), (fi, fl, ai, al), rfl, hw, by rw [ht]; exact hP, va_K.moved hW.alike hK, hD⟩, hS.F ht⟩) hS.2.2 d_SS_best_13
  rw [hH, hlo] at key
  exact key
def SS_order_w (fi : Nat → Int32) (fl : Nat → Int64) (ai : Nat → Nat → Int32) (al : Nat → Nat → Int64) (p0 : Int32) (K : Int64 → Prop) : Prop :=
  SS_within_w p0 (0 : Int32) ((fi 11) - (1 : Int32)) (fun (r11 : Int32) =>
  if r11 = 0 then (
    K (-1000000000000000000 : Int64))
  else (
    vp_in p0 6 ∧ (
    K ((ai 60 p0.toNatClampNeg).toInt64))))
theorem d_SS_order_0 : decode b_SS_order 0 = .ok (.iload_n 1, 1) := by decide +kernel
theorem d_SS_order_1 : decode b_SS_order 1 = .ok (.iconst 0, 1) := by decide +kernel
theorem d_SS_order_2 : decode b_SS_order 2 = .ok (.aload_n 0, 1) := by decide +kernel
theorem d_SS_order_3 : decode b_SS_order 3 = .ok (.getfield 73, 3) := by decide +kernel
theorem d_SS_order_6 : decode b_SS_order 6 = .ok (.getfield 235, 3) := by decide +kernel
theorem d_SS_order_9 : decode b_SS_order 9 = .ok (.iconst 1, 1) := by decide +kernel
theorem d_SS_order_10 : decode b_SS_order 10 = .ok (.isub, 1) := by decide +kernel
theorem d_SS_order_11 : decode b_SS_order 11 = .ok (.invokestatic 81, 3) := by decide +kernel
theorem d_SS_order_14 : decode b_SS_order 14 = .ok (.ifCond .ne (7), 3) := by decide +kernel
theorem d_SS_order_17 : decode b_SS_order 17 = .ok (.ldc2_w 128, 3) := by decide +kernel
theorem d_SS_order_20 : decode b_SS_order 20 = .ok (.lreturn, 1) := by decide +kernel
theorem d_SS_order_21 : decode b_SS_order 21 = .ok (.aload_n 0, 1) := by decide +kernel
theorem d_SS_order_22 : decode b_SS_order 22 = .ok (.getfield 73, 3) := by decide +kernel
theorem d_SS_order_25 : decode b_SS_order 25 = .ok (.getfield 238, 3) := by decide +kernel
theorem d_SS_order_28 : decode b_SS_order 28 = .ok (.iload_n 1, 1) := by decide +kernel
theorem d_SS_order_29 : decode b_SS_order 29 = .ok (.iaload, 1) := by decide +kernel
theorem d_SS_order_30 : decode b_SS_order 30 = .ok (.i2l, 1) := by decide +kernel
theorem d_SS_order_31 : decode b_SS_order 31 = .ok (.lreturn, 1) := by decide +kernel
set_option maxHeartbeats 4000000 in
set_option maxRecDepth 100000 in
theorem c_SS_order (l : Launch) (dC : Nat → ClassId) (dI : Nat → Nat → Nat) (cI cJ cG cZ : ClassId) (a : Nat → Nat) (fi : Nat → Int32) (fl : Nat → Int64) (ai : Nat → Nat → Int32) (al : Nat → Nat → Int64) (p0 : Int32) (K : Int64 → Prop) (hw : SS_order_w fi fl ai al p0 K) : Met l y_SS_order ws_SS_order ({ frames := 1, cells := 0, slots := 0, locals := 22 }) (va_Pc [.ref (a 0), .int p0] (zw_B (dC, dI) vwCl [(cI, .int), (cJ, .long), (cG, .array .int), (cZ, .boolean)] (cw cI cJ cG cZ a fi fl ai al))) (vp_Sl K) 0 0 (fun _ => False) := by
  refine Met.ofW (cc := b_SS_order) (maxL := 2) (ret := (Option.some FieldType.long)) (by decide) rfl ?_
  intro p e s m args below meth c s₁ B hml hv
  obtain ⟨rfl, hP, hK, hN⟩ := hv
  have hx := B.exec
  have hb := B.bytes
  have hr := B.returns
  have hts := atoms_spec (ws := ws_SS_order) B.pre
  have ht : ∀ w ∈ zw_tbl, w.before _ s = true := fun w h => hts w (List.mem_cons_of_mem _ h)
  have hown : s.vm.findClass R_SS = some m.cls := findClass_of_methodNamed B.named
  have hlocks := B.notSynchronized
  have hl := lv_entry ([.ref (a 0), .int p0] : List Value) (n := 2) (Nat.le_of_ble_eq_true rfl)
  rw [lg_entry_eq]
  generalize (lg_sl ([.ref (a 0), .int p0] : List Value) ++ List.replicate (2 - (lg_sl ([.ref (a 0), .int p0] : List Value)).length) Slot.unset).toArray = ls at hl ⊢
  have hl : lv_has ls 2 [(0, .ref (a 0)), (1, .int p0)] := hl
  unfold SS_order_w at hw
  refine lv_iload_n hx hb d_SS_order_0 rfl (lv_at hl 1 rfl) ?_
  refine lv_iconst (v := (0 : Int32)) hx hb d_SS_order_1 (by decide) ?_
  refine lv_aload_n hx hb d_SS_order_2 rfl (lv_at hl 0 rfl) ?_
  refine va_get (D := (dC, dI)) (ci := 0) (v := .ref (a 58)) (C := R_SS) (T := T_SS) (N := 9) hx hb ht in_SS hown hK hP 0 rfl rfl 5 (by decide) (ht _ kw_247) (fun _ h9 => h9) rfl d_SS_order_3 ?_
  refine va_get (D := (dC, dI)) (ci := 5) (v := .int (fi 11)) (C := R_Se) (T := T_Se) (N := 7) hx hb ht in_Se hown hK hP 58 rfl rfl 5 (by decide) (ht _ kw_225) (fun _ h9 => h9) rfl d_SS_order_6 ?_
  refine lv_iconst (v := (1 : Int32)) hx hb d_SS_order_9 (by decide) ?_
  refine lv_isub hx hb d_SS_order_10 ?_
  refine vp_callSi (va_Run.run (va_runS (As := [.int p0, .int (0 : Int32), .int ((fi 11) - (1 : Int32))]) (rest := []) ⟨hx, hb, hml, hown, hts⟩ (c_SS_within l p0 (0 : Int32) ((fi 11) - (1 : Int32)) _ hw) (va_cwS 3 hts (zw_goodS kw_281 kw_279 kw_1 kw_280) rfl rfl rfl hd_SS_within.2 ⟨Nat.le_of_ble_eq_true rfl, Nat.le_of_ble_eq_true rfl⟩) zw_preS0 rfl rfl hl.1 rfl (lv_room (Nat.le_of_ble_eq_true rfl)) d_SS_order_11 ⟨Nat.le_of_ble_eq_true rfl, Nat.le_of_ble_eq_true rfl⟩)) (fun r11 hw => ?_)
  refine lv_if_ne (tgt := 21) hx hb d_SS_order_14 (by decide) (fun c14 => ?_) (fun c14 => ?_)
  · have hw := zw_ite_f c14 hw
    refine lv_aload_n hx hb d_SS_order_21 rfl (lv_at hl 0 rfl) ?_
    refine va_get (D := (dC, dI)) (ci := 0) (v := .ref (a 58)) (C := R_SS) (T := T_SS) (N := 9) hx hb ht in_SS hown hK hP 0 rfl rfl 5 (by decide) (ht _ kw_247) (fun _ h9 => h9) rfl d_SS_order_22 ?_
    refine va_get (D := (dC, dI)) (ci := 5) (v := .ref (a 60)) (C := R_Se) (T := T_Se) (N := 7) hx hb ht in_Se hown hK hP 58 rfl rfl 4 (by decide) (ht _ kw_223) (fun _ h9 => h9) rfl d_SS_order_25 ?_
    refine lv_iload_n hx hb d_SS_order_28 rfl (lv_at hl 1 rfl) ?_
    obtain ⟨h29, hw⟩ := hw
    refine va_iald (f := ai 60) hx hb hK hP 60 0 rfl rfl h29 d_SS_order_29 ?_
    refine lv_i2l hx hb d_SS_order_30 rfl ?_
    exact W.lret (v := (ai 60 p0.toNatClampNeg).toInt64) hx hb hr (fun t ht hW => ⟨(ai 60 p0.toNatClampNeg).toInt64, rfl, hw, ht⟩) t_nil d_SS_order_31
  · have hw := zw_ite_t c14 hw
    refine lv_ldc2 (v := (-1000000000000000000 : Int64)) hx hb hown (hts (.constantLong R_SS 128 (-1000000000000000000 : Int64)) (by decide +kernel)) d_SS_order_17 ?_
    exact W.lret (v := (-1000000000000000000 : Int64)) hx hb hr (fun t ht hW => ⟨(-1000000000000000000 : Int64), rfl, hw, ht⟩) t_nil d_SS_order_20
def SS_told_w (fi : Nat → Int32) (fl : Nat → Int64) (ai : Nat → Nat → Int32) (al : Nat → Nat → Int64) (p0 : Int32) (K : Int64 → Prop) : Prop :=
  if p0 = (0 : Int32) then (
    K ((fi 2).toInt64))
  else (if p0 = (1 : Int32) then (
    K ((fi 3).toInt64))
  else (if p0 = (2 : Int32) then (
    K ((fi 4).toInt64))
  else (if p0 = (3 : Int32) then (
    Pl_onBits_w fi fl ai al  (fun (r71 : Int32) =>
    K r71.toInt64))
  else (if p0 = (4 : Int32) then (
    K ((fi 6).toInt64))
  else (if p0 = (5 : Int32) then (
    if (fi 2) = 0 then (
      K (-1000000000000000000 : Int64))
    else (
      Pl_endDay_w fi fl ai al  (fun (r105 : Int32) =>
      K r105.toInt64)))
  else (
    K (-1000000000000000000 : Int64)))))))
theorem d_SS_told_0 : decode b_SS_told 0 = .ok (.iload_n 1, 1) := by decide +kernel
theorem d_SS_told_1 : decode b_SS_told 1 = .ok (.tableswitch (109) (0) (5) #[39, 48, 57, 66, 75, 84], 39) := by decide +kernel
theorem d_SS_told_40 : decode b_SS_told 40 = .ok (.aload_n 0, 1) := by decide +kernel
theorem d_SS_told_41 : decode b_SS_told 41 = .ok (.getfield 19, 3) := by decide +kernel
theorem d_SS_told_44 : decode b_SS_told 44 = .ok (.getfield 160, 3) := by decide +kernel
theorem d_SS_told_47 : decode b_SS_told 47 = .ok (.i2l, 1) := by decide +kernel
theorem d_SS_told_48 : decode b_SS_told 48 = .ok (.lreturn, 1) := by decide +kernel
theorem d_SS_told_49 : decode b_SS_told 49 = .ok (.aload_n 0, 1) := by decide +kernel
theorem d_SS_told_50 : decode b_SS_told 50 = .ok (.getfield 19, 3) := by decide +kernel
theorem d_SS_told_53 : decode b_SS_told 53 = .ok (.getfield 241, 3) := by decide +kernel
theorem d_SS_told_56 : decode b_SS_told 56 = .ok (.i2l, 1) := by decide +kernel
theorem d_SS_told_57 : decode b_SS_told 57 = .ok (.lreturn, 1) := by decide +kernel
theorem d_SS_told_58 : decode b_SS_told 58 = .ok (.aload_n 0, 1) := by decide +kernel
theorem d_SS_told_59 : decode b_SS_told 59 = .ok (.getfield 19, 3) := by decide +kernel
theorem d_SS_told_62 : decode b_SS_told 62 = .ok (.getfield 228, 3) := by decide +kernel
theorem d_SS_told_65 : decode b_SS_told 65 = .ok (.i2l, 1) := by decide +kernel
theorem d_SS_told_66 : decode b_SS_told 66 = .ok (.lreturn, 1) := by decide +kernel
theorem d_SS_told_67 : decode b_SS_told 67 = .ok (.aload_n 0, 1) := by decide +kernel
theorem d_SS_told_68 : decode b_SS_told 68 = .ok (.getfield 19, 3) := by decide +kernel
theorem d_SS_told_71 : decode b_SS_told 71 = .ok (.invokevirtual 154, 3) := by decide +kernel
theorem d_SS_told_74 : decode b_SS_told 74 = .ok (.i2l, 1) := by decide +kernel
theorem d_SS_told_75 : decode b_SS_told 75 = .ok (.lreturn, 1) := by decide +kernel
theorem d_SS_told_76 : decode b_SS_told 76 = .ok (.aload_n 0, 1) := by decide +kernel
theorem d_SS_told_77 : decode b_SS_told 77 = .ok (.getfield 26, 3) := by decide +kernel
theorem d_SS_told_80 : decode b_SS_told 80 = .ok (.getfield 206, 3) := by decide +kernel
theorem d_SS_told_83 : decode b_SS_told 83 = .ok (.i2l, 1) := by decide +kernel
theorem d_SS_told_84 : decode b_SS_told 84 = .ok (.lreturn, 1) := by decide +kernel
theorem d_SS_told_85 : decode b_SS_told 85 = .ok (.aload_n 0, 1) := by decide +kernel
theorem d_SS_told_86 : decode b_SS_told 86 = .ok (.getfield 19, 3) := by decide +kernel
theorem d_SS_told_89 : decode b_SS_told 89 = .ok (.getfield 160, 3) := by decide +kernel
theorem d_SS_told_92 : decode b_SS_told 92 = .ok (.ifCond .ne (9), 3) := by decide +kernel
theorem d_SS_told_95 : decode b_SS_told 95 = .ok (.ldc2_w 128, 3) := by decide +kernel
theorem d_SS_told_98 : decode b_SS_told 98 = .ok (.goto (11), 3) := by decide +kernel
theorem d_SS_told_101 : decode b_SS_told 101 = .ok (.aload_n 0, 1) := by decide +kernel
theorem d_SS_told_102 : decode b_SS_told 102 = .ok (.getfield 19, 3) := by decide +kernel
theorem d_SS_told_105 : decode b_SS_told 105 = .ok (.invokevirtual 244, 3) := by decide +kernel
theorem d_SS_told_108 : decode b_SS_told 108 = .ok (.i2l, 1) := by decide +kernel
theorem d_SS_told_109 : decode b_SS_told 109 = .ok (.lreturn, 1) := by decide +kernel
theorem d_SS_told_110 : decode b_SS_told 110 = .ok (.ldc2_w 128, 3) := by decide +kernel
theorem d_SS_told_113 : decode b_SS_told 113 = .ok (.lreturn, 1) := by decide +kernel
set_option maxHeartbeats 4000000 in
set_option maxRecDepth 100000 in
theorem c_SS_told (l : Launch) (dC : Nat → ClassId) (dI : Nat → Nat → Nat) (cI cJ cG cZ : ClassId) (a : Nat → Nat) (fi : Nat → Int32) (fl : Nat → Int64) (ai : Nat → Nat → Int32) (al : Nat → Nat → Int64) (p0 : Int32) (K : Int64 → Prop) (hw : SS_told_w fi fl ai al p0 K) : Met l y_SS_told ws_SS_told ({ frames := 2, cells := 0, slots := 0, locals := 43 }) (va_Pc [.ref (a 0), .int p0] (zw_B (dC, dI) vwCl [(cI, .int), (cJ, .long), (cG, .array .int), (cZ, .boolean)] (cw cI cJ cG cZ a fi fl ai al))) (vp_Sl K) 0 0 (fun _ => False) := by
  refine Met.ofW (cc := b_SS_told) (maxL := 2) (ret := (Option.some FieldType.long)) (by decide) rfl ?_
  intro p e s m args below meth c s₁ B hml hv
  obtain ⟨rfl, hP, hK, hN⟩ := hv
  have hx := B.exec
  have hb := B.bytes
  have hr := B.returns
  have hts := atoms_spec (ws := ws_SS_told) B.pre
  have ht : ∀ w ∈ zw_tbl, w.before _ s = true := fun w h => hts w (List.mem_cons_of_mem _ h)
  have hown : s.vm.findClass R_SS = some m.cls := findClass_of_methodNamed B.named
  have hlocks := B.notSynchronized
  have hl := lv_entry ([.ref (a 0), .int p0] : List Value) (n := 2) (Nat.le_of_ble_eq_true rfl)
  rw [lg_entry_eq]
  generalize (lg_sl ([.ref (a 0), .int p0] : List Value) ++ List.replicate (2 - (lg_sl ([.ref (a 0), .int p0] : List Value)).length) Slot.unset).toArray = ls at hl ⊢
  have hl : lv_has ls 2 [(0, .ref (a 0)), (1, .int p0)] := hl
  unfold SS_told_w at hw
  refine lv_iload_n hx hb d_SS_told_0 rfl (lv_at hl 1 rfl) ?_
  by_cases c1_0 : p0 = (0 : Int32)
  · have hw := zw_ite_t c1_0 hw
    refine lv_tableIn (off := 39) (tgt := 40) hx hb d_SS_told_1 (by rw [c1_0]; decide) (by rw [c1_0]; decide) (by rw [c1_0]; rfl) (by decide) ?_
    refine lv_aload_n hx hb d_SS_told_40 rfl (lv_at hl 0 rfl) ?_
    refine va_get (D := (dC, dI)) (ci := 0) (v := .ref (a 4)) (C := R_SS) (T := T_SS) (N := 9) hx hb ht in_SS hown hK hP 0 rfl rfl 2 (by decide) (ht _ kw_244) (fun _ h9 => h9) rfl d_SS_told_41 ?_
    refine va_get (D := (dC, dI)) (ci := 3) (v := .int (fi 2)) (C := R_Pl) (T := T_Pl) (N := 11) hx hb ht in_Pl hown hK hP 4 rfl rfl 7 (by decide) (ht _ kw_62) (fun _ h9 => h9) rfl d_SS_told_44 ?_
    refine lv_i2l hx hb d_SS_told_47 rfl ?_
    exact W.lret (v := (fi 2).toInt64) hx hb hr (fun t ht hW => ⟨(fi 2).toInt64, rfl, hw, ht⟩) t_nil d_SS_told_48
  · have hw := zw_ite_f c1_0 hw
    by_cases c1_1 : p0 = (1 : Int32)
    · have hw := zw_ite_t c1_1 hw
      refine lv_tableIn (off := 48) (tgt := 49) hx hb d_SS_told_1 (by rw [c1_1]; decide) (by rw [c1_1]; decide) (by rw [c1_1]; rfl) (by decide) ?_
      refine lv_aload_n hx hb d_SS_told_49 rfl (lv_at hl 0 rfl) ?_
      refine va_get (D := (dC, dI)) (ci := 0) (v := .ref (a 4)) (C := R_SS) (T := T_SS) (N := 9) hx hb ht in_SS hown hK hP 0 rfl rfl 2 (by decide) (ht _ kw_244) (fun _ h9 => h9) rfl d_SS_told_50 ?_
      refine va_get (D := (dC, dI)) (ci := 3) (v := .int (fi 3)) (C := R_Pl) (T := T_Pl) (N := 11) hx hb ht in_Pl hown hK hP 4 rfl rfl 8 (by decide) (ht _ kw_65) (fun _ h9 => h9) rfl d_SS_told_53 ?_
      refine lv_i2l hx hb d_SS_told_56 rfl ?_
      exact W.lret (v := (fi 3).toInt64) hx hb hr (fun t ht hW => ⟨(fi 3).toInt64, rfl, hw, ht⟩) t_nil d_SS_told_57
    · have hw := zw_ite_f c1_1 hw
      by_cases c1_2 : p0 = (2 : Int32)
      · have hw := zw_ite_t c1_2 hw
        refine lv_tableIn (off := 57) (tgt := 58) hx hb d_SS_told_1 (by rw [c1_2]; decide) (by rw [c1_2]; decide) (by rw [c1_2]; rfl) (by decide) ?_
        refine lv_aload_n hx hb d_SS_told_58 rfl (lv_at hl 0 rfl) ?_
        refine va_get (D := (dC, dI)) (ci := 0) (v := .ref (a 4)) (C := R_SS) (T := T_SS) (N := 9) hx hb ht in_SS hown hK hP 0 rfl rfl 2 (by decide) (ht _ kw_244) (fun _ h9 => h9) rfl d_SS_told_59 ?_
        refine va_get (D := (dC, dI)) (ci := 3) (v := .int (fi 4)) (C := R_Pl) (T := T_Pl) (N := 11) hx hb ht in_Pl hown hK hP 4 rfl rfl 9 (by decide) (ht _ kw_69) (fun _ h9 => h9) rfl d_SS_told_62 ?_
        refine lv_i2l hx hb d_SS_told_65 rfl ?_
        exact W.lret (v := (fi 4).toInt64) hx hb hr (fun t ht hW => ⟨(fi 4).toInt64, rfl, hw, ht⟩) t_nil d_SS_told_66
      · have hw := zw_ite_f c1_2 hw
        by_cases c1_3 : p0 = (3 : Int32)
        · have hw := zw_ite_t c1_3 hw
          refine lv_tableIn (off := 66) (tgt := 67) hx hb d_SS_told_1 (by rw [c1_3]; decide) (by rw [c1_3]; decide) (by rw [c1_3]; rfl) (by decide) ?_
          refine lv_aload_n hx hb d_SS_told_67 rfl (lv_at hl 0 rfl) ?_
          refine va_get (D := (dC, dI)) (ci := 0) (v := .ref (a 4)) (C := R_SS) (T := T_SS) (N := 9) hx hb ht in_SS hown hK hP 0 rfl rfl 2 (by decide) (ht _ kw_244) (fun _ h9 => h9) rfl d_SS_told_68 ?_
          refine vp_callSi (va_Run.run (va_runV (As := []) (rest := []) ⟨hx, hb, hml, hown, hts⟩ (c_Pl_onBits l dC dI cI cJ cG cZ a fi fl ai al _ hw) (cwV 0 hts (zw_goodV kw_392 kw_393 kw_394 kw_3 kw_395) rfl rfl rfl hd_Pl_onBits ⟨Nat.le_of_ble_eq_true rfl, Nat.le_of_ble_eq_true rfl⟩) (zw_preV (ci := 3) (q0 := 4) hK hN hP rfl rfl) rfl rfl hl.1 rfl (lv_room (Nat.le_of_ble_eq_true rfl)) d_SS_told_71 ⟨Nat.le_of_ble_eq_true rfl, Nat.le_of_ble_eq_true rfl⟩)) (fun r71 hw => ?_)
          refine lv_i2l hx hb d_SS_told_74 rfl ?_
          exact W.lret (v := r71.toInt64) hx hb hr (fun t ht hW => ⟨r71.toInt64, rfl, hw, ht⟩) t_nil d_SS_told_75
        · have hw := zw_ite_f c1_3 hw
          by_cases c1_4 : p0 = (4 : Int32)
          · have hw := zw_ite_t c1_4 hw
            refine lv_tableIn (off := 75) (tgt := 76) hx hb d_SS_told_1 (by rw [c1_4]; decide) (by rw [c1_4]; decide) (by rw [c1_4]; rfl) (by decide) ?_
            refine lv_aload_n hx hb d_SS_told_76 rfl (lv_at hl 0 rfl) ?_
            refine va_get (D := (dC, dI)) (ci := 0) (v := .ref (a 12)) (C := R_SS) (T := T_SS) (N := 9) hx hb ht in_SS hown hK hP 0 rfl rfl 3 (by decide) (ht _ kw_245) (fun _ h9 => h9) rfl d_SS_told_77 ?_
            refine va_get (D := (dC, dI)) (ci := 4) (v := .int (fi 6)) (C := R_Ru) (T := T_Ru) (N := 5) hx hb ht in_Ru hown hK hP 12 rfl rfl 4 (by decide) (ht _ kw_108) (fun _ h9 => h9) rfl d_SS_told_80 ?_
            refine lv_i2l hx hb d_SS_told_83 rfl ?_
            exact W.lret (v := (fi 6).toInt64) hx hb hr (fun t ht hW => ⟨(fi 6).toInt64, rfl, hw, ht⟩) t_nil d_SS_told_84
          · have hw := zw_ite_f c1_4 hw
            by_cases c1_5 : p0 = (5 : Int32)
            · have hw := zw_ite_t c1_5 hw
              refine lv_tableIn (off := 84) (tgt := 85) hx hb d_SS_told_1 (by rw [c1_5]; decide) (by rw [c1_5]; decide) (by rw [c1_5]; rfl) (by decide) ?_
              refine lv_aload_n hx hb d_SS_told_85 rfl (lv_at hl 0 rfl) ?_
              refine va_get (D := (dC, dI)) (ci := 0) (v := .ref (a 4)) (C := R_SS) (T := T_SS) (N := 9) hx hb ht in_SS hown hK hP 0 rfl rfl 2 (by decide) (ht _ kw_244) (fun _ h9 => h9) rfl d_SS_told_86 ?_
              refine va_get (D := (dC, dI)) (ci := 3) (v := .int (fi 2)) (C := R_Pl) (T := T_Pl) (N := 11) hx hb ht in_Pl hown hK hP 4 rfl rfl 7 (by decide) (ht _ kw_62) (fun _ h9 => h9) rfl d_SS_told_89 ?_
              refine lv_if_ne (tgt := 101) hx hb d_SS_told_92 (by decide) (fun c92 => ?_) (fun c92 => ?_)
              · have hw := zw_ite_f c92 hw
                refine lv_aload_n hx hb d_SS_told_101 rfl (lv_at hl 0 rfl) ?_
                refine va_get (D := (dC, dI)) (ci := 0) (v := .ref (a 4)) (C := R_SS) (T := T_SS) (N := 9) hx hb ht in_SS hown hK hP 0 rfl rfl 2 (by decide) (ht _ kw_244) (fun _ h9 => h9) rfl d_SS_told_102 ?_
                refine vp_callSi (va_Run.run (va_runV (As := []) (rest := []) ⟨hx, hb, hml, hown, hts⟩ (c_Pl_endDay l dC dI cI cJ cG cZ a fi fl ai al _ hw) (cwV 0 hts (zw_goodV kw_427 kw_428 kw_429 kw_3 kw_430) rfl rfl rfl hd_Pl_endDay ⟨Nat.le_of_ble_eq_true rfl, Nat.le_of_ble_eq_true rfl⟩) (zw_preV (ci := 3) (q0 := 4) hK hN hP rfl rfl) rfl rfl hl.1 rfl (lv_room (Nat.le_of_ble_eq_true rfl)) d_SS_told_105 ⟨Nat.le_of_ble_eq_true rfl, Nat.le_of_ble_eq_true rfl⟩)) (fun r105 hw => ?_)
                refine lv_i2l hx hb d_SS_told_108 rfl ?_
                exact W.lret (v := r105.toInt64) hx hb hr (fun t ht hW => ⟨r105.toInt64, rfl, hw, ht⟩) t_nil d_SS_told_109
              · have hw := zw_ite_t c92 hw
                refine lv_ldc2 (v := (-1000000000000000000 : Int64)) hx hb hown (hts (.constantLong R_SS 128 (-1000000000000000000 : Int64)) (by decide +kernel)) d_SS_told_95 ?_
                refine lv_goto (tgt := 109) hx hb d_SS_told_98 (by decide) ?_
                exact W.lret (v := (-1000000000000000000 : Int64)) hx hb hr (fun t ht hW => ⟨(-1000000000000000000 : Int64), rfl, hw, ht⟩) t_nil d_SS_told_109
            · have hw := zw_ite_f c1_5 hw
              refine lv_tableOut (tgt := 110) hx hb d_SS_told_1 (by have := lv_neT (a := 0) c1_0 (by decide); have := lv_neT (a := 1) c1_1 (by decide); have := lv_neT (a := 2) c1_2 (by decide); have := lv_neT (a := 3) c1_3 (by decide); have := lv_neT (a := 4) c1_4 (by decide); have := lv_neT (a := 5) c1_5 (by decide); omega) (by decide) ?_
              refine lv_ldc2 (v := (-1000000000000000000 : Int64)) hx hb hown (hts (.constantLong R_SS 128 (-1000000000000000000 : Int64)) (by decide +kernel)) d_SS_told_110 ?_
              exact W.lret (v := (-1000000000000000000 : Int64)) hx hb hr (fun t ht hW => ⟨(-1000000000000000000 : Int64), rfl, hw, ht⟩) t_nil d_SS_told_113
def SS_check_w (fi : Nat → Int32) (fl : Nat → Int64) (ai : Nat → Nat → Int32) (al : Nat → Nat → Int64) (K : Int32 → (Nat → Int32) → (Nat → Nat → Int32) → (Nat → Nat → Int64) → Prop) : Prop :=
  SS_castAll_w fi fl ai al  (fun (fi_1 : Nat → Int32) (ai_1 : Nat → Nat → Int32) (al_1 : Nat → Nat → Int64) =>
  zw_nm (0 : Int32) (fun (v5 : Int32) =>
  zw_lp1 (fun L6 (x6_1 : Int32) =>
  if (fi_1 7) ≤ x6_1 then (
    K (1 : Int32) fi_1 ai_1 al_1)
  else (
    vp_in x6_1 6 ∧ (
    vp_in x6_1 6 ∧ (
    zw_nm (((ai_1 21 x6_1.toNatClampNeg).toInt64 * (1000000000 : Int64)) + (al_1 17 x6_1.toNatClampNeg)) (fun (v38 : Int64) =>
    Pl_placeOf_w fi_1 fl ai_1 al_1 x6_1 (fun (r44 : Int32) =>
    zw_jn0 (
    zw_nm (x6_1 + (1 : Int32)) (fun (v62 : Int32) =>
    L6 v62)) (fun J62 =>
    if r44 < 0 then (
      J62)
    else (
      SS_heightNow_w fi_1 fl ai_1 al_1 x6_1 (fun (r52 : Int64) =>
      if r52 = v38 then (
        J62)
      else (
        K (0 : Int32) fi_1 ai_1 al_1)))))))))) v5))
theorem d_SS_check_0 : decode b_SS_check 0 = .ok (.aload_n 0, 1) := by decide +kernel
theorem d_SS_check_1 : decode b_SS_check 1 = .ok (.invokevirtual 177, 3) := by decide +kernel
theorem d_SS_check_4 : decode b_SS_check 4 = .ok (.iconst 0, 1) := by decide +kernel
theorem d_SS_check_5 : decode b_SS_check 5 = .ok (.istore_n 1, 1) := by decide +kernel
theorem d_SS_check_6 : decode b_SS_check 6 = .ok (.iload_n 1, 1) := by decide +kernel
theorem d_SS_check_7 : decode b_SS_check 7 = .ok (.aload_n 0, 1) := by decide +kernel
theorem d_SS_check_8 : decode b_SS_check 8 = .ok (.getfield 55, 3) := by decide +kernel
theorem d_SS_check_11 : decode b_SS_check 11 = .ok (.getfield 222, 3) := by decide +kernel
theorem d_SS_check_14 : decode b_SS_check 14 = .ok (.if_icmp .ge (54), 3) := by decide +kernel
theorem d_SS_check_17 : decode b_SS_check 17 = .ok (.aload_n 0, 1) := by decide +kernel
theorem d_SS_check_18 : decode b_SS_check 18 = .ok (.getfield 55, 3) := by decide +kernel
theorem d_SS_check_21 : decode b_SS_check 21 = .ok (.getfield 91, 3) := by decide +kernel
theorem d_SS_check_24 : decode b_SS_check 24 = .ok (.iload_n 1, 1) := by decide +kernel
theorem d_SS_check_25 : decode b_SS_check 25 = .ok (.iaload, 1) := by decide +kernel
theorem d_SS_check_26 : decode b_SS_check 26 = .ok (.i2l, 1) := by decide +kernel
theorem d_SS_check_27 : decode b_SS_check 27 = .ok (.ldc2_w 197, 3) := by decide +kernel
theorem d_SS_check_30 : decode b_SS_check 30 = .ok (.lmul, 1) := by decide +kernel
theorem d_SS_check_31 : decode b_SS_check 31 = .ok (.aload_n 0, 1) := by decide +kernel
theorem d_SS_check_32 : decode b_SS_check 32 = .ok (.getfield 30, 3) := by decide +kernel
theorem d_SS_check_35 : decode b_SS_check 35 = .ok (.iload_n 1, 1) := by decide +kernel
theorem d_SS_check_36 : decode b_SS_check 36 = .ok (.laload, 1) := by decide +kernel
theorem d_SS_check_37 : decode b_SS_check 37 = .ok (.ladd, 1) := by decide +kernel
theorem d_SS_check_38 : decode b_SS_check 38 = .ok (.lstore_n 2, 1) := by decide +kernel
theorem d_SS_check_39 : decode b_SS_check 39 = .ok (.aload_n 0, 1) := by decide +kernel
theorem d_SS_check_40 : decode b_SS_check 40 = .ok (.getfield 19, 3) := by decide +kernel
theorem d_SS_check_43 : decode b_SS_check 43 = .ok (.iload_n 1, 1) := by decide +kernel
theorem d_SS_check_44 : decode b_SS_check 44 = .ok (.invokevirtual 117, 3) := by decide +kernel
theorem d_SS_check_47 : decode b_SS_check 47 = .ok (.ifCond .lt (15), 3) := by decide +kernel
theorem d_SS_check_50 : decode b_SS_check 50 = .ok (.aload_n 0, 1) := by decide +kernel
theorem d_SS_check_51 : decode b_SS_check 51 = .ok (.iload_n 1, 1) := by decide +kernel
theorem d_SS_check_52 : decode b_SS_check 52 = .ok (.invokevirtual 247, 3) := by decide +kernel
theorem d_SS_check_55 : decode b_SS_check 55 = .ok (.lload_n 2, 1) := by decide +kernel
theorem d_SS_check_56 : decode b_SS_check 56 = .ok (.lcmp, 1) := by decide +kernel
theorem d_SS_check_57 : decode b_SS_check 57 = .ok (.ifCond .eq (5), 3) := by decide +kernel
theorem d_SS_check_60 : decode b_SS_check 60 = .ok (.iconst 0, 1) := by decide +kernel
theorem d_SS_check_61 : decode b_SS_check 61 = .ok (.ireturn, 1) := by decide +kernel
theorem d_SS_check_62 : decode b_SS_check 62 = .ok (.iinc 1 (1), 3) := by decide +kernel
theorem d_SS_check_65 : decode b_SS_check 65 = .ok (.goto (-59), 3) := by decide +kernel
theorem d_SS_check_68 : decode b_SS_check 68 = .ok (.iconst 1, 1) := by decide +kernel
theorem d_SS_check_69 : decode b_SS_check 69 = .ok (.ireturn, 1) := by decide +kernel
set_option maxHeartbeats 4000000 in
set_option maxRecDepth 100000 in
theorem c_SS_check (l : Launch) (dC : Nat → ClassId) (dI : Nat → Nat → Nat) (cI cJ cG cZ : ClassId) (a : Nat → Nat) (sz : Nat) (fi : Nat → Int32) (fl : Nat → Int64) (ai : Nat → Nat → Int32) (al : Nat → Nat → Int64) (K : Int32 → (Nat → Int32) → (Nat → Nat → Int32) → (Nat → Nat → Int64) → Prop) (hw : SS_check_w fi fl ai al K) : Met l y_SS_check ws_SS_check ({ frames := 5, cells := 0, slots := 0, locals := 115 }) (va_Pc [.ref (a 0)] (zw_Bw (dC, dI) vwCl [(cI, .int), (cJ, .long), (cG, .array .int), (cZ, .boolean)] (cw cI cJ cG cZ a fi fl ai al) sz)) (va_Qi (fun r (u : zw_Z) => (zw_k_fi_ai_alr fl K) r u.1 u.2.1 u.2.2.1 u.2.2.2) (fun u t => zw_E (dC, dI) vwCl [(cI, .int), (cJ, .long), (cG, .array .int), (cZ, .boolean)] (va_A (cw cI cJ cG cZ a fi fl ai al) sz) (cw cI cJ cG cZ a u.1 u.2.1 u.2.2.1 u.2.2.2) t) (va_A (cw cI cJ cG cZ a fi fl ai al) sz)) 0 0 (va_A (cw cI cJ cG cZ a fi fl ai al) sz) := by
  refine Met.ofW (cc := b_SS_check) (maxL := 4) (ret := (Option.some FieldType.int)) (by decide) rfl ?_
  intro p e s m args below meth c s₁ B hml hv
  obtain ⟨rfl, hsz, hP, hK, hD0, hN⟩ := hv
  have hx := B.exec
  have hb := B.bytes
  have hr := B.returns
  have hts := atoms_spec (ws := ws_SS_check) B.pre
  have ht : ∀ w ∈ zw_tbl, w.before _ s = true := fun w h => hts w (List.mem_cons_of_mem _ h)
  have hown : s.vm.findClass R_SS = some m.cls := findClass_of_methodNamed B.named
  have hlocks := B.notSynchronized
  subst hsz
  have hD := hD0.self (sz := s.heap.size)
  generalize hAe : va_A (cw cI cJ cG cZ a fi fl ai al) s.heap.size = A at hD ⊢
  have hA : ∀ q : Nat, s.heap.size ≤ q → A q := fun q h => by rw [← hAe]; exact Or.inr h
  have hS : va_S A s.heap s.heap [] := va_S.rf
  have hl := lv_entry ([.ref (a 0)] : List Value) (n := 4) (Nat.le_of_ble_eq_true rfl)
  rw [lg_entry_eq]
  generalize (lg_sl ([.ref (a 0)] : List Value) ++ List.replicate (4 - (lg_sl ([.ref (a 0)] : List Value)).length) Slot.unset).toArray = ls at hl ⊢
  have hl : lv_has ls 4 [(0, .ref (a 0))] := hl
  unfold SS_check_w at hw
  obtain ⟨H, hH⟩ : ∃ H, H = s.heap := ⟨_, rfl⟩
  obtain ⟨locs, hlo⟩ : ∃ q : List Loc, q = [] := ⟨_, rfl⟩
  have hP : va_P (dC, dI) vwCl (cw cI cJ cG cZ a fi fl ai al) H := by rw [hH]; exact hP
  have hS : va_S A s.heap H locs := by rw [hH, hlo]; exact hS
  have key : W p l e (headSpec ws_SS_check ({ frames := 5, cells := 0, slots := 0, locals := 115 })).room s m ([.ref (a 0)] : List Value).toArray below meth c H locs 0 0 (MQ below (va_Qi (fun r (u : zw_Z) => (zw_k_fi_ai_alr fl K) r u.1 u.2.1 u.2.2.1 u.2.2.2) (fun u t => zw_E (dC, dI) vwCl [(cI, .int), (cJ, .long), (cG, .array .int), (cZ, .boolean)] A (cw cI cJ cG cZ a u.1 u.2.1 u.2.2.1 u.2.2.2) t) A) ([.ref (a 0)] : List Value).toArray s 0 0 A) (F0 m 0 ls []) := by
    refine lv_aload_n hx hb d_SS_check_0 rfl (lv_at hl 0 rfl) ?_
    refine zw_cv (va_runV (As := []) (rest := []) ⟨hx, hb, hml, hown, hts⟩ (c_SS_castAll l dC dI cI cJ cG cZ a H.size fi fl ai al _ hw) (cwV 0 hts (zw_goodV kw_423 kw_425 kw_s3 kw_1 kw_426) rfl rfl rfl hd_SS_castAll ⟨Nat.le_of_ble_eq_true rfl, Nat.le_of_ble_eq_true rfl⟩) (zw_preVw (ci := 0) (q0 := 0) hK hN hP hD rfl rfl) rfl rfl hl.1 rfl (lv_room (Nat.le_of_ble_eq_true rfl)) d_SS_check_1 ⟨Nat.le_of_ble_eq_true rfl, Nat.le_of_ble_eq_true rfl⟩) hD hS hA (fun fi_1 fl_1 ai_1 al_1 H locs hw hP hD hS => ?_)
    obtain ⟨rfl, hw⟩ := hw
    refine lv_iconst (v := (0 : Int32)) hx hb d_SS_check_4 (by decide) ?_
    refine lv_topi (fun v5 ev5 => ?_)
    have hw := zw_nm_x ev5 hw
    refine lv_istore_n (lv' := [(1, .int v5), (0, .ref (a 0))]) hx hb d_SS_check_5 rfl hl (by decide) rfl (fun ls hl => ?_)
    refine (zw_lp1_i (P := fun (x6_1 : Int32) => ∀ (H : Heap) (locs : List Loc) (ls : Array Slot), va_P (dC, dI) vwCl (cw cI cJ cG cZ a fi_1 fl ai_1 al_1) H → va_D A (cw cI cJ cG cZ a fi_1 fl ai_1 al_1) → va_S A s.heap H locs → lv_has ls 4 [(0, .ref (a 0)), (1, .int x6_1)] → W p l e (headSpec ws_SS_check ({ frames := 5, cells := 0, slots := 0, locals := 115 })).room s m ([.ref (a 0)] : List Value).toArray below meth c H locs 0 0 (MQ below (va_Qi (fun r (u : zw_Z) => (zw_k_fi_ai_alr fl K) r u.1 u.2.1 u.2.2.1 u.2.2.2) (fun u t => zw_E (dC, dI) vwCl [(cI, .int), (cJ, .long), (cG, .array .int), (cZ, .boolean)] A (cw cI cJ cG cZ a u.1 u.2.1 u.2.2.1 u.2.2.2) t) A) ([.ref (a 0)] : List Value).toArray s 0 0 A) (F0 m 6 ls [])) hw (fun L6 x6_1 ih6 hw H locs ls hP hD hS hl => ?_)) H locs ls hP hD hS (lv_sub hl [1, 0] rfl)
    refine lv_iload_n hx hb d_SS_check_6 rfl (lv_at hl 1 rfl) ?_
    refine lv_aload_n hx hb d_SS_check_7 rfl (lv_at hl 0 rfl) ?_
    refine va_get (D := (dC, dI)) (ci := 0) (v := .ref (a 19)) (C := R_SS) (T := T_SS) (N := 9) hx hb ht in_SS hown hK hP 0 rfl rfl 0 (by decide) (ht _ kw_242) (fun _ h9 => h9) rfl d_SS_check_8 ?_
    refine va_get (D := (dC, dI)) (ci := 2) (v := .int (fi_1 7)) (C := R_Gi) (T := T_Gi) (N := 7) hx hb ht in_Gi hown hK hP 19 rfl rfl 0 (by decide) (ht _ kw_137) (fun _ h9 => h9) rfl d_SS_check_11 ?_
    refine lv_icmp_ge (tgt := 68) hx hb d_SS_check_14 (by decide) (fun c14 => ?_) (fun c14 => ?_)
    · have hw := zw_ite_t c14 hw
      refine lv_iconst (v := (1 : Int32)) hx hb d_SS_check_68 (by decide) ?_
      exact W.iret (v := (1 : Int32)) hx hb hr (fun t ht hW => ⟨⟨(1 : Int32), (fi_1, fl, ai_1, al_1), rfl, ⟨rfl, hw⟩, by rw [ht]; exact hP, va_K.moved hW.alike hK, hD⟩, hS.F ht⟩) hS.2.2 d_SS_check_69
    · have hw := zw_ite_f c14 hw
      refine lv_aload_n hx hb d_SS_check_17 rfl (lv_at hl 0 rfl) ?_
      refine va_get (D := (dC, dI)) (ci := 0) (v := .ref (a 19)) (C := R_SS) (T := T_SS) (N := 9) hx hb ht in_SS hown hK hP 0 rfl rfl 0 (by decide) (ht _ kw_242) (fun _ h9 => h9) rfl d_SS_check_18 ?_
      refine va_get (D := (dC, dI)) (ci := 2) (v := .ref (a 21)) (C := R_Gi) (T := T_Gi) (N := 7) hx hb ht in_Gi hown hK hP 19 rfl rfl 2 (by decide) (ht _ kw_142) (fun _ h9 => h9) rfl d_SS_check_21 ?_
      refine lv_iload_n hx hb d_SS_check_24 rfl (lv_at hl 1 rfl) ?_
      obtain ⟨h25, hw⟩ := hw
      refine va_iald (f := ai_1 21) hx hb hK hP 21 0 rfl rfl h25 d_SS_check_25 ?_
      refine lv_i2l hx hb d_SS_check_26 rfl ?_
      refine lv_ldc2 (v := (1000000000 : Int64)) hx hb hown (hts (.constantLong R_SS 197 (1000000000 : Int64)) (by decide +kernel)) d_SS_check_27 ?_
      refine lv_lmul hx hb d_SS_check_30 ?_
      refine lv_aload_n hx hb d_SS_check_31 rfl (lv_at hl 0 rfl) ?_
      refine va_get (D := (dC, dI)) (ci := 0) (v := .ref (a 17)) (C := R_SS) (T := T_SS) (N := 9) hx hb ht in_SS hown hK hP 0 rfl rfl 6 (by decide) (ht _ kw_248) (fun _ h9 => h9) rfl d_SS_check_32 ?_
      refine lv_iload_n hx hb d_SS_check_35 rfl (lv_at hl 1 rfl) ?_
      obtain ⟨h36, hw⟩ := hw
      refine va_lald (f := al_1 17) hx hb hK hP 17 1 rfl rfl h36 d_SS_check_36 ?_
      refine lv_ladd hx hb d_SS_check_37 ?_
      refine lv_topl (fun v38 ev38 => ?_)
      have hw := zw_nm_x ev38 hw
      refine lv_lstore_n (lv' := [(2, .long v38), (0, .ref (a 0)), (1, .int x6_1)]) hx hb d_SS_check_38 rfl hl (by decide) rfl (fun ls hl => ?_)
      refine lv_aload_n hx hb d_SS_check_39 rfl (lv_at hl 1 rfl) ?_
      refine va_get (D := (dC, dI)) (ci := 0) (v := .ref (a 4)) (C := R_SS) (T := T_SS) (N := 9) hx hb ht in_SS hown hK hP 0 rfl rfl 2 (by decide) (ht _ kw_244) (fun _ h9 => h9) rfl d_SS_check_40 ?_
      refine lv_iload_n hx hb d_SS_check_43 rfl (lv_at hl 2 rfl) ?_
      refine vp_callSi (va_Run.run (va_runV (As := [.int x6_1]) (rest := []) ⟨hx, hb, hml, hown, hts⟩ (c_Pl_placeOf l dC dI cI cJ cG cZ a fi_1 fl ai_1 al_1 x6_1 _ hw) (cwV 1 hts (zw_goodV kw_322 kw_323 kw_324 kw_3 kw_325) rfl rfl rfl hd_Pl_placeOf ⟨Nat.le_of_ble_eq_true rfl, Nat.le_of_ble_eq_true rfl⟩) (zw_preV (ci := 3) (q0 := 4) hK hN hP rfl rfl) rfl rfl hl.1 rfl (lv_room (Nat.le_of_ble_eq_true rfl)) d_SS_check_44 ⟨Nat.le_of_ble_eq_true rfl, Nat.le_of_ble_eq_true rfl⟩)) (fun r44 hw => ?_)
      refine zw_jn0_i (P := ∀ (H : Heap) (locs : List Loc) (ls : Array Slot), va_P (dC, dI) vwCl (cw cI cJ cG cZ a fi_1 fl ai_1 al_1) H → va_D A (cw cI cJ cG cZ a fi_1 fl ai_1 al_1) → va_S A s.heap H locs → lv_has ls 4 [(0, .ref (a 0)), (1, .int x6_1)] → W p l e (headSpec ws_SS_check ({ frames := 5, cells := 0, slots := 0, locals := 115 })).room s m ([.ref (a 0)] : List Value).toArray below meth c H locs 0 0 (MQ below (va_Qi (fun r (u : zw_Z) => (zw_k_fi_ai_alr fl K) r u.1 u.2.1 u.2.2.1 u.2.2.2) (fun u t => zw_E (dC, dI) vwCl [(cI, .int), (cJ, .long), (cG, .array .int), (cZ, .boolean)] A (cw cI cJ cG cZ a u.1 u.2.1 u.2.2.1 u.2.2.2) t) A) ([.ref (a 0)] : List Value).toArray s 0 0 A) (F0 m 62 ls [])) hw (fun hw H locs ls hP hD hS hl => ?_) (fun J62 hj62 hw => ?_)
      · obtain ⟨v62, ev62⟩ : ∃ y : Int32, y = x6_1 + (1 : Int32) := ⟨_, rfl⟩
        refine lv_iinc (v := v62) (lv' := [(1, .int v62), (0, .ref (a 0))]) hx hb d_SS_check_62 hl (k := 1) rfl (by rw [ev62]; rfl) (by decide) rfl (fun ls hl => ?_)
        have hw := zw_nm_x ev62 hw
        refine lv_goto (tgt := 6) hx hb d_SS_check_65 (by decide) ?_
        exact (ih6 v62 hw) H locs ls hP hD hS (lv_sub hl [1, 0] rfl)
      · refine lv_if_lt (tgt := 62) hx hb d_SS_check_47 (by decide) (fun c47 => ?_) (fun c47 => ?_)
        · have hw := zw_ite_t c47 hw
          exact (hj62  hw) H locs ls hP hD hS (lv_sub hl [1, 2] rfl)
        · have hw := zw_ite_f c47 hw
          refine lv_aload_n hx hb d_SS_check_50 rfl (lv_at hl 1 rfl) ?_
          refine lv_iload_n hx hb d_SS_check_51 rfl (lv_at hl 2 rfl) ?_
          refine vp_callSl (va_Run.run (va_runV (As := [.int x6_1]) (rest := []) ⟨hx, hb, hml, hown, hts⟩ (c_SS_heightNow l dC dI cI cJ cG cZ a fi_1 fl ai_1 al_1 x6_1 _ hw) (cwV 1 hts (zw_goodV kw_473 kw_475 kw_s9 kw_1 kw_476) rfl rfl rfl hd_SS_heightNow ⟨Nat.le_of_ble_eq_true rfl, Nat.le_of_ble_eq_true rfl⟩) (zw_preV (ci := 0) (q0 := 0) hK hN hP rfl rfl) rfl rfl hl.1 rfl (lv_room (Nat.le_of_ble_eq_true rfl)) d_SS_check_52 ⟨Nat.le_of_ble_eq_true rfl, Nat.le_of_ble_eq_true rfl⟩)) (fun r52 hw => ?_)
          refine lv_lload_n hx hb d_SS_check_55 rfl (lv_at hl 0 rfl) ?_
          refine W.lcmp hx hb d_SS_check_56 ?_
          refine lv_if_eq (tgt := 62) hx hb d_SS_check_57 (by decide) (fun c57 => ?_) (fun c57 => ?_)
          · have hw := zw_ite_t (zw_lg_eq.mp c57) hw
            exact (hj62  hw) H locs ls hP hD hS (lv_sub hl [1, 2] rfl)
          · have hw := zw_ite_f (mt zw_lg_eq.mpr c57) hw
            refine lv_iconst (v := (0 : Int32)) hx hb d_SS_check_60 (by decide) ?_
            exact W.iret (v := (0 : Int32)) hx hb hr (fun t ht hW => ⟨⟨(0 : Int32), (fi_1, fl, ai_1, al_1), rfl, ⟨rfl, hw⟩, by rw [ht]; exact hP, va_K.moved hW.alike hK, hD⟩, hS.F ht⟩) hS.2.2 d_SS_check_61
  rw [hH, hlo] at key
  exact key
