def SS_check_w (fi : Nat → Int32) (fl : Nat → Int64) (ai : Nat → Nat → Int32) (al : Nat → Nat → Int64) (K : Int32 → (Nat → Int32) → (Nat → Nat → Int32) → (Nat → Nat → Int64) → Prop) : Prop :=
  SS_castAll_w fi fl ai al  (fun (fi_1 : Nat → Int32) (ai_1 : Nat → Nat → Int32) (al_1 : Nat → Nat → Int64) =>
  zw_nm (0 : Int32) (fun (v5 : Int32) =>
  zw_lp1 (fun L6 (x6_1 : Int32) =>
  if (fi_1 7) ≤ x6_1 then (
    K (1 : Int32) fi_1 ai_1 al_1)
  else (
    vp_in x6_1 6 ∧ (
    vp_in x6_1 6 ∧ (
    zw_nm (((ai_1 21 x6_1.toNatClampNeg).toInt64 * (1000000000 : Int64)) + (al_1 17 x6_1.toNatClampNeg)) (fun (v38 : Int64) =>
    Pl_placeOf_w fi_1 fl ai_1 al_1 x6_1 (fun (r44 : Int32) =>
    zw_jn0 (
    zw_nm (x6_1 + (1 : Int32)) (fun (v62 : Int32) =>
    L6 v62)) (fun J62 =>
    if r44 < 0 then (
      J62)
    else (
      SS_heightNow_w fi_1 fl ai_1 al_1 x6_1 (fun (r52 : Int64) =>
      if r52 = v38 then (
        J62)
      else (
        K (0 : Int32) fi_1 ai_1 al_1)))))))))) v5))
theorem d_SS_check_0 : decode b_SS_check 0 = .ok (.aload_n 0, 1) := by decide +kernel
theorem d_SS_check_1 : decode b_SS_check 1 = .ok (.invokevirtual 177, 3) := by decide +kernel
theorem d_SS_check_4 : decode b_SS_check 4 = .ok (.iconst 0, 1) := by decide +kernel
theorem d_SS_check_5 : decode b_SS_check 5 = .ok (.istore_n 1, 1) := by decide +kernel
theorem d_SS_check_6 : decode b_SS_check 6 = .ok (.iload_n 1, 1) := by decide +kernel
theorem d_SS_check_7 : decode b_SS_check 7 = .ok (.aload_n 0, 1) := by decide +kernel
theorem d_SS_check_8 : decode b_SS_check 8 = .ok (.getfield 55, 3) := by decide +kernel
theorem d_SS_check_11 : decode b_SS_check 11 = .ok (.getfield 222, 3) := by decide +kernel
theorem d_SS_check_14 : decode b_SS_check 14 = .ok (.if_icmp .ge (54), 3) := by decide +kernel
theorem d_SS_check_17 : decode b_SS_check 17 = .ok (.aload_n 0, 1) := by decide +kernel
theorem d_SS_check_18 : decode b_SS_check 18 = .ok (.getfield 55, 3) := by decide +kernel
theorem d_SS_check_21 : decode b_SS_check 21 = .ok (.getfield 91, 3) := by decide +kernel
theorem d_SS_check_24 : decode b_SS_check 24 = .ok (.iload_n 1, 1) := by decide +kernel
theorem d_SS_check_25 : decode b_SS_check 25 = .ok (.iaload, 1) := by decide +kernel
theorem d_SS_check_26 : decode b_SS_check 26 = .ok (.i2l, 1) := by decide +kernel
theorem d_SS_check_27 : decode b_SS_check 27 = .ok (.ldc2_w 197, 3) := by decide +kernel
theorem d_SS_check_30 : decode b_SS_check 30 = .ok (.lmul, 1) := by decide +kernel
theorem d_SS_check_31 : decode b_SS_check 31 = .ok (.aload_n 0, 1) := by decide +kernel
theorem d_SS_check_32 : decode b_SS_check 32 = .ok (.getfield 30, 3) := by decide +kernel
theorem d_SS_check_35 : decode b_SS_check 35 = .ok (.iload_n 1, 1) := by decide +kernel
theorem d_SS_check_36 : decode b_SS_check 36 = .ok (.laload, 1) := by decide +kernel
theorem d_SS_check_37 : decode b_SS_check 37 = .ok (.ladd, 1) := by decide +kernel
theorem d_SS_check_38 : decode b_SS_check 38 = .ok (.lstore_n 2, 1) := by decide +kernel
theorem d_SS_check_39 : decode b_SS_check 39 = .ok (.aload_n 0, 1) := by decide +kernel
theorem d_SS_check_40 : decode b_SS_check 40 = .ok (.getfield 19, 3) := by decide +kernel
theorem d_SS_check_43 : decode b_SS_check 43 = .ok (.iload_n 1, 1) := by decide +kernel
theorem d_SS_check_44 : decode b_SS_check 44 = .ok (.invokevirtual 117, 3) := by decide +kernel
theorem d_SS_check_47 : decode b_SS_check 47 = .ok (.ifCond .lt (15), 3) := by decide +kernel
theorem d_SS_check_50 : decode b_SS_check 50 = .ok (.aload_n 0, 1) := by decide +kernel
theorem d_SS_check_51 : decode b_SS_check 51 = .ok (.iload_n 1, 1) := by decide +kernel
theorem d_SS_check_52 : decode b_SS_check 52 = .ok (.invokevirtual 247, 3) := by decide +kernel
theorem d_SS_check_55 : decode b_SS_check 55 = .ok (.lload_n 2, 1) := by decide +kernel
theorem d_SS_check_56 : decode b_SS_check 56 = .ok (.lcmp, 1) := by decide +kernel
theorem d_SS_check_57 : decode b_SS_check 57 = .ok (.ifCond .eq (5), 3) := by decide +kernel
theorem d_SS_check_60 : decode b_SS_check 60 = .ok (.iconst 0, 1) := by decide +kernel
theorem d_SS_check_61 : decode b_SS_check 61 = .ok (.ireturn, 1) := by decide +kernel
theorem d_SS_check_62 : decode b_SS_check 62 = .ok (.iinc 1 (1), 3) := by decide +kernel
theorem d_SS_check_65 : decode b_SS_check 65 = .ok (.goto (-59), 3) := by decide +kernel
theorem d_SS_check_68 : decode b_SS_check 68 = .ok (.iconst 1, 1) := by decide +kernel
theorem d_SS_check_69 : decode b_SS_check 69 = .ok (.ireturn, 1) := by decide +kernel
set_option maxHeartbeats 4000000 in
set_option maxRecDepth 100000 in
theorem c_SS_check (l : Launch) (dC : Nat → ClassId) (dI : Nat → Nat → Nat) (cI cJ cG cZ : ClassId) (a : Nat → Nat) (sz : Nat) (fi : Nat → Int32) (fl : Nat → Int64) (ai : Nat → Nat → Int32) (al : Nat → Nat → Int64) (K : Int32 → (Nat → Int32) → (Nat → Nat → Int32) → (Nat → Nat → Int64) → Prop) (hw : SS_check_w fi fl ai al K) : Met l y_SS_check ws_SS_check ({ frames := 6, cells := 0, slots := 0, locals := 137 }) (va_Pc [.ref (a 0)] (zw_Bw (dC, dI) vwCl [(cI, .int), (cJ, .long), (cG, .array .int), (cZ, .boolean)] (cw cI cJ cG cZ a fi fl ai al) sz)) (va_Qi (fun r (u : zw_Z) => (zw_k_fi_ai_alr fl K) r u.1 u.2.1 u.2.2.1 u.2.2.2) (fun u t => zw_E (dC, dI) vwCl [(cI, .int), (cJ, .long), (cG, .array .int), (cZ, .boolean)] (va_A (cw cI cJ cG cZ a fi fl ai al) sz) (cw cI cJ cG cZ a u.1 u.2.1 u.2.2.1 u.2.2.2) t) (va_A (cw cI cJ cG cZ a fi fl ai al) sz)) 0 0 (va_A (cw cI cJ cG cZ a fi fl ai al) sz) := by
  refine Met.ofW (cc := b_SS_check) (maxL := 4) (ret := (Option.some FieldType.int)) (by decide) rfl ?_
  intro p e s m args below meth c s₁ B hml hv
  obtain ⟨rfl, hsz, hP, hK, hD0, hN⟩ := hv
  have hx := B.exec
  have hb := B.bytes
  have hr := B.returns
  have hts := atoms_spec (ws := ws_SS_check) B.pre
  have ht : ∀ w ∈ zw_tbl, w.before _ s = true := fun w h => hts w (List.mem_cons_of_mem _ h)
  have hown : s.vm.findClass R_SS = some m.cls := findClass_of_methodNamed B.named
  have hlocks := B.notSynchronized
  subst hsz
  have hD := hD0.self (sz := s.heap.size)
  generalize hAe : va_A (cw cI cJ cG cZ a fi fl ai al) s.heap.size = A at hD ⊢
  have hA : ∀ q : Nat, s.heap.size ≤ q → A q := fun q h => by rw [← hAe]; exact Or.inr h
  have hS : va_S A s.heap s.heap [] := va_S.rf
  have hl := lv_entry ([.ref (a 0)] : List Value) (n := 4) (Nat.le_of_ble_eq_true rfl)
  rw [lg_entry_eq]
  generalize (lg_sl ([.ref (a 0)] : List Value) ++ List.replicate (4 - (lg_sl ([.ref (a 0)] : List Value)).length) Slot.unset).toArray = ls at hl ⊢
  have hl : lv_has ls 4 [(0, .ref (a 0))] := hl
  unfold SS_check_w at hw
  obtain ⟨H, hH⟩ : ∃ H, H = s.heap := ⟨_, rfl⟩
  obtain ⟨locs, hlo⟩ : ∃ q : List Loc, q = [] := ⟨_, rfl⟩
  have hP : va_P (dC, dI) vwCl (cw cI cJ cG cZ a fi fl ai al) H := by rw [hH]; exact hP
  have hS : va_S A s.heap H locs := by rw [hH, hlo]; exact hS
  have key : W p l e (headSpec ws_SS_check ({ frames := 6, cells := 0, slots := 0, locals := 137 })).room s m ([.ref (a 0)] : List Value).toArray below meth c H locs 0 0 (MQ below (va_Qi (fun r (u : zw_Z) => (zw_k_fi_ai_alr fl K) r u.1 u.2.1 u.2.2.1 u.2.2.2) (fun u t => zw_E (dC, dI) vwCl [(cI, .int), (cJ, .long), (cG, .array .int), (cZ, .boolean)] A (cw cI cJ cG cZ a u.1 u.2.1 u.2.2.1 u.2.2.2) t) A) ([.ref (a 0)] : List Value).toArray s 0 0 A) (F0 m 0 ls []) := by
    refine lv_aload_n hx hb d_SS_check_0 rfl (lv_at hl 0 rfl) ?_
    refine zw_cv (va_runV (As := []) (rest := []) ⟨hx, hb, hml, hown, hts⟩ (c_SS_castAll l dC dI cI cJ cG cZ a H.size fi fl ai al _ hw) (cwV 0 hts (zw_goodV kw_423 kw_425 kw_s3 kw_1 kw_426) rfl rfl rfl hd_SS_castAll ⟨Nat.le_of_ble_eq_true rfl, Nat.le_of_ble_eq_true rfl⟩) (zw_preVw (ci := 0) (q0 := 0) hK hN hP hD rfl rfl) rfl rfl hl.1 rfl (lv_room (Nat.le_of_ble_eq_true rfl)) d_SS_check_1 ⟨Nat.le_of_ble_eq_true rfl, Nat.le_of_ble_eq_true rfl⟩) hD hS hA (fun fi_1 fl_1 ai_1 al_1 H locs hw hP hD hS => ?_)
    obtain ⟨rfl, hw⟩ := hw
    refine lv_iconst (v := (0 : Int32)) hx hb d_SS_check_4 (by decide) ?_
    refine lv_topi (fun v5 ev5 => ?_)
    have hw := zw_nm_x ev5 hw
    refine lv_istore_n (lv' := [(1, .int v5), (0, .ref (a 0))]) hx hb d_SS_check_5 rfl hl (by decide) rfl (fun ls hl => ?_)
    refine (zw_lp1_i (P := fun (x6_1 : Int32) => ∀ (H : Heap) (locs : List Loc) (ls : Array Slot), va_P (dC, dI) vwCl (cw cI cJ cG cZ a fi_1 fl ai_1 al_1) H → va_D A (cw cI cJ cG cZ a fi_1 fl ai_1 al_1) → va_S A s.heap H locs → lv_has ls 4 [(0, .ref (a 0)), (1, .int x6_1)] → W p l e (headSpec ws_SS_check ({ frames := 6, cells := 0, slots := 0, locals := 137 })).room s m ([.ref (a 0)] : List Value).toArray below meth c H locs 0 0 (MQ below (va_Qi (fun r (u : zw_Z) => (zw_k_fi_ai_alr fl K) r u.1 u.2.1 u.2.2.1 u.2.2.2) (fun u t => zw_E (dC, dI) vwCl [(cI, .int), (cJ, .long), (cG, .array .int), (cZ, .boolean)] A (cw cI cJ cG cZ a u.1 u.2.1 u.2.2.1 u.2.2.2) t) A) ([.ref (a 0)] : List Value).toArray s 0 0 A) (F0 m 6 ls [])) hw (fun L6 x6_1 ih6 hw H locs ls hP hD hS hl => ?_)) H locs ls hP hD hS (lv_sub hl [1, 0] rfl)
    refine lv_iload_n hx hb d_SS_check_6 rfl (lv_at hl 1 rfl) ?_
    refine lv_aload_n hx hb d_SS_check_7 rfl (lv_at hl 0 rfl) ?_
    refine va_get (D := (dC, dI)) (ci := 0) (v := .ref (a 19)) (C := R_SS) (T := T_SS) (N := 9) hx hb ht in_SS hown hK hP 0 rfl rfl 0 (by decide) (ht _ kw_242) (fun _ h9 => h9) rfl d_SS_check_8 ?_
    refine va_get (D := (dC, dI)) (ci := 2) (v := .int (fi_1 7)) (C := R_Gi) (T := T_Gi) (N := 7) hx hb ht in_Gi hown hK hP 19 rfl rfl 0 (by decide) (ht _ kw_137) (fun _ h9 => h9) rfl d_SS_check_11 ?_
    refine lv_icmp_ge (tgt := 68) hx hb d_SS_check_14 (by decide) (fun c14 => ?_) (fun c14 => ?_)
    · have hw := zw_ite_t c14 hw
      refine lv_iconst (v := (1 : Int32)) hx hb d_SS_check_68 (by decide) ?_
      exact W.iret (v := (1 : Int32)) hx hb hr (fun t ht hW => ⟨⟨(1 : Int32), (fi_1, fl, ai_1, al_1), rfl, ⟨rfl, hw⟩, by rw [ht]; exact hP, va_K.moved hW.alike hK, hD⟩, hS.F ht⟩) hS.2.2 d_SS_check_69
    · have hw := zw_ite_f c14 hw
      refine lv_aload_n hx hb d_SS_check_17 rfl (lv_at hl 0 rfl) ?_
      refine va_get (D := (dC, dI)) (ci := 0) (v := .ref (a 19)) (C := R_SS) (T := T_SS) (N := 9) hx hb ht in_SS hown hK hP 0 rfl rfl 0 (by decide) (ht _ kw_242) (fun _ h9 => h9) rfl d_SS_check_18 ?_
      refine va_get (D := (dC, dI)) (ci := 2) (v := .ref (a 21)) (C := R_Gi) (T := T_Gi) (N := 7) hx hb ht in_Gi hown hK hP 19 rfl rfl 2 (by decide) (ht _ kw_142) (fun _ h9 => h9) rfl d_SS_check_21 ?_
      refine lv_iload_n hx hb d_SS_check_24 rfl (lv_at hl 1 rfl) ?_
      obtain ⟨h25, hw⟩ := hw
      refine va_iald (f := ai_1 21) hx hb hK hP 21 0 rfl rfl h25 d_SS_check_25 ?_
      refine lv_i2l hx hb d_SS_check_26 rfl ?_
      refine lv_ldc2 (v := (1000000000 : Int64)) hx hb hown (hts (.constantLong R_SS 197 (1000000000 : Int64)) (by decide +kernel)) d_SS_check_27 ?_
      refine lv_lmul hx hb d_SS_check_30 ?_
      refine lv_aload_n hx hb d_SS_check_31 rfl (lv_at hl 0 rfl) ?_
      refine va_get (D := (dC, dI)) (ci := 0) (v := .ref (a 17)) (C := R_SS) (T := T_SS) (N := 9) hx hb ht in_SS hown hK hP 0 rfl rfl 6 (by decide) (ht _ kw_248) (fun _ h9 => h9) rfl d_SS_check_32 ?_
      refine lv_iload_n hx hb d_SS_check_35 rfl (lv_at hl 1 rfl) ?_
      obtain ⟨h36, hw⟩ := hw
      refine va_lald (f := al_1 17) hx hb hK hP 17 1 rfl rfl h36 d_SS_check_36 ?_
      refine lv_ladd hx hb d_SS_check_37 ?_
      refine lv_topl (fun v38 ev38 => ?_)
      have hw := zw_nm_x ev38 hw
      refine lv_lstore_n (lv' := [(2, .long v38), (0, .ref (a 0)), (1, .int x6_1)]) hx hb d_SS_check_38 rfl hl (by decide) rfl (fun ls hl => ?_)
      refine lv_aload_n hx hb d_SS_check_39 rfl (lv_at hl 1 rfl) ?_
      refine va_get (D := (dC, dI)) (ci := 0) (v := .ref (a 4)) (C := R_SS) (T := T_SS) (N := 9) hx hb ht in_SS hown hK hP 0 rfl rfl 2 (by decide) (ht _ kw_244) (fun _ h9 => h9) rfl d_SS_check_40 ?_
      refine lv_iload_n hx hb d_SS_check_43 rfl (lv_at hl 2 rfl) ?_
      refine vp_callSi (va_Run.run (va_runV (As := [.int x6_1]) (rest := []) ⟨hx, hb, hml, hown, hts⟩ (c_Pl_placeOf l dC dI cI cJ cG cZ a fi_1 fl ai_1 al_1 x6_1 _ hw) (cwV 1 hts (zw_goodV kw_322 kw_323 kw_324 kw_3 kw_325) rfl rfl rfl hd_Pl_placeOf ⟨Nat.le_of_ble_eq_true rfl, Nat.le_of_ble_eq_true rfl⟩) (zw_preV (ci := 3) (q0 := 4) hK hN hP rfl rfl) rfl rfl hl.1 rfl (lv_room (Nat.le_of_ble_eq_true rfl)) d_SS_check_44 ⟨Nat.le_of_ble_eq_true rfl, Nat.le_of_ble_eq_true rfl⟩)) (fun r44 hw => ?_)
      refine zw_jn0_i (P := ∀ (H : Heap) (locs : List Loc) (ls : Array Slot), va_P (dC, dI) vwCl (cw cI cJ cG cZ a fi_1 fl ai_1 al_1) H → va_D A (cw cI cJ cG cZ a fi_1 fl ai_1 al_1) → va_S A s.heap H locs → lv_has ls 4 [(0, .ref (a 0)), (1, .int x6_1)] → W p l e (headSpec ws_SS_check ({ frames := 6, cells := 0, slots := 0, locals := 137 })).room s m ([.ref (a 0)] : List Value).toArray below meth c H locs 0 0 (MQ below (va_Qi (fun r (u : zw_Z) => (zw_k_fi_ai_alr fl K) r u.1 u.2.1 u.2.2.1 u.2.2.2) (fun u t => zw_E (dC, dI) vwCl [(cI, .int), (cJ, .long), (cG, .array .int), (cZ, .boolean)] A (cw cI cJ cG cZ a u.1 u.2.1 u.2.2.1 u.2.2.2) t) A) ([.ref (a 0)] : List Value).toArray s 0 0 A) (F0 m 62 ls [])) hw (fun hw H locs ls hP hD hS hl => ?_) (fun J62 hj62 hw => ?_)
      · obtain ⟨v62, ev62⟩ : ∃ y : Int32, y = x6_1 + (1 : Int32) := ⟨_, rfl⟩
        refine lv_iinc (v := v62) (lv' := [(1, .int v62), (0, .ref (a 0))]) hx hb d_SS_check_62 hl (k := 1) rfl (by rw [ev62]; rfl) (by decide) rfl (fun ls hl => ?_)
        have hw := zw_nm_x ev62 hw
        refine lv_goto (tgt := 6) hx hb d_SS_check_65 (by decide) ?_
        exact (ih6 v62 hw) H locs ls hP hD hS (lv_sub hl [1, 0] rfl)
      · refine lv_if_lt (tgt := 62) hx hb d_SS_check_47 (by decide) (fun c47 => ?_) (fun c47 => ?_)
        · have hw := zw_ite_t c47 hw
          exact (hj62  hw) H locs ls hP hD hS (lv_sub hl [1, 2] rfl)
        · have hw := zw_ite_f c47 hw
          refine lv_aload_n hx hb d_SS_check_50 rfl (lv_at hl 1 rfl) ?_
          refine lv_iload_n hx hb d_SS_check_51 rfl (lv_at hl 2 rfl) ?_
          refine vp_callSl (va_Run.run (va_runV (As := [.int x6_1]) (rest := []) ⟨hx, hb, hml, hown, hts⟩ (c_SS_heightNow l dC dI cI cJ cG cZ a fi_1 fl ai_1 al_1 x6_1 _ hw) (cwV 1 hts (zw_goodV kw_477 kw_479 kw_s10 kw_1 kw_480) rfl rfl rfl hd_SS_heightNow ⟨Nat.le_of_ble_eq_true rfl, Nat.le_of_ble_eq_true rfl⟩) (zw_preV (ci := 0) (q0 := 0) hK hN hP rfl rfl) rfl rfl hl.1 rfl (lv_room (Nat.le_of_ble_eq_true rfl)) d_SS_check_52 ⟨Nat.le_of_ble_eq_true rfl, Nat.le_of_ble_eq_true rfl⟩)) (fun r52 hw => ?_)
          refine lv_lload_n hx hb d_SS_check_55 rfl (lv_at hl 0 rfl) ?_
          refine W.lcmp hx hb d_SS_check_56 ?_
          refine lv_if_eq (tgt := 62) hx hb d_SS_check_57 (by decide) (fun c57 => ?_) (fun c57 => ?_)
          · have hw := zw_ite_t (zw_lg_eq.mp c57) hw
            exact (hj62  hw) H locs ls hP hD hS (lv_sub hl [1, 2] rfl)
          · have hw := zw_ite_f (mt zw_lg_eq.mpr c57) hw
            refine lv_iconst (v := (0 : Int32)) hx hb d_SS_check_60 (by decide) ?_
            exact W.iret (v := (0 : Int32)) hx hb hr (fun t ht hW => ⟨⟨(0 : Int32), (fi_1, fl, ai_1, al_1), rfl, ⟨rfl, hw⟩, by rw [ht]; exact hP, va_K.moved hW.alike hK, hD⟩, hS.F ht⟩) hS.2.2 d_SS_check_61
  rw [hH, hlo] at key
  exact key
