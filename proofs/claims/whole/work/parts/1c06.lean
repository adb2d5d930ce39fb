def SS_levelThen_w (fi : Nat → Int32) (fl : Nat → Int64) (ai : Nat → Nat → Int32) (al : Nat → Nat → Int64) (p0 : Int32) (p1 : Int32) (K : Int64 → (Nat → Int32) → (Nat → Nat → Int32) → (Nat → Nat → Int64) → Prop) : Prop :=
  SS_castAll_w fi fl ai al  (fun (fi_1 : Nat → Int32) (ai_1 : Nat → Nat → Int32) (al_1 : Nat → Nat → Int64) =>
  SS_walkTo_w fi_1 fl ai_1 al_1 p1 (fun (fi_6 : Nat → Int32) (ai_6 : Nat → Nat → Int32) (al_6 : Nat → Nat → Int64) =>
  SS_heightNow_w fi_6 fl ai_6 al_6 p0 (fun (r11 : Int64) =>
  K r11 fi_6 ai_6 al_6)))
theorem d_SS_levelThen_0 : decode b_SS_levelThen 0 = .ok (.aload_n 0, 1) := by decide +kernel
theorem d_SS_levelThen_1 : decode b_SS_levelThen 1 = .ok (.invokevirtual 177, 3) := by decide +kernel
theorem d_SS_levelThen_4 : decode b_SS_levelThen 4 = .ok (.aload_n 0, 1) := by decide +kernel
theorem d_SS_levelThen_5 : decode b_SS_levelThen 5 = .ok (.iload_n 2, 1) := by decide +kernel
theorem d_SS_levelThen_6 : decode b_SS_levelThen 6 = .ok (.invokevirtual 189, 3) := by decide +kernel
theorem d_SS_levelThen_9 : decode b_SS_levelThen 9 = .ok (.aload_n 0, 1) := by decide +kernel
theorem d_SS_levelThen_10 : decode b_SS_levelThen 10 = .ok (.iload_n 1, 1) := by decide +kernel
theorem d_SS_levelThen_11 : decode b_SS_levelThen 11 = .ok (.invokevirtual 247, 3) := by decide +kernel
theorem d_SS_levelThen_14 : decode b_SS_levelThen 14 = .ok (.lreturn, 1) := by decide +kernel
set_option maxHeartbeats 4000000 in
set_option maxRecDepth 100000 in
theorem c_SS_levelThen (l : Launch) (dC : Nat → ClassId) (dI : Nat → Nat → Nat) (cI cJ cG cZ : ClassId) (a : Nat → Nat) (sz : Nat) (fi : Nat → Int32) (fl : Nat → Int64) (ai : Nat → Nat → Int32) (al : Nat → Nat → Int64) (p0 : Int32) (p1 : Int32) (K : Int64 → (Nat → Int32) → (Nat → Nat → Int32) → (Nat → Nat → Int64) → Prop) (hw : SS_levelThen_w fi fl ai al p0 p1 K) : Met l y_SS_levelThen ws_SS_levelThen ({ frames := 5, cells := 0, slots := 0, locals := 115 }) (va_Pc [.ref (a 0), .int p0, .int p1] (zw_Bw (dC, dI) vwCl [(cI, .int), (cJ, .long), (cG, .array .int), (cZ, .boolean)] (cw cI cJ cG cZ a fi fl ai al) sz)) (va_Ql (fun r (u : zw_Z) => (zw_k_fi_ai_alr fl K) r u.1 u.2.1 u.2.2.1 u.2.2.2) (fun u t => zw_E (dC, dI) vwCl [(cI, .int), (cJ, .long), (cG, .array .int), (cZ, .boolean)] (va_A (cw cI cJ cG cZ a fi fl ai al) sz) (cw cI cJ cG cZ a u.1 u.2.1 u.2.2.1 u.2.2.2) t) (va_A (cw cI cJ cG cZ a fi fl ai al) sz)) 0 0 (va_A (cw cI cJ cG cZ a fi fl ai al) sz) := by
  refine Met.ofW (cc := b_SS_levelThen) (maxL := 3) (ret := (Option.some FieldType.long)) (by decide) rfl ?_
  intro p e s m args below meth c s₁ B hml hv
  obtain ⟨rfl, hsz, hP, hK, hD0, hN⟩ := hv
  have hx := B.exec
  have hb := B.bytes
  have hr := B.returns
  have hts := atoms_spec (ws := ws_SS_levelThen) B.pre
  have ht : ∀ w ∈ zw_tbl, w.before _ s = true := fun w h => hts w (List.mem_cons_of_mem _ h)
  have hown : s.vm.findClass R_SS = some m.cls := findClass_of_methodNamed B.named
  have hlocks := B.notSynchronized
  subst hsz
  have hD := hD0.self (sz := s.heap.size)
  generalize hAe : va_A (cw cI cJ cG cZ a fi fl ai al) s.heap.size = A at hD ⊢
  have hA : ∀ q : Nat, s.heap.size ≤ q → A q := fun q h => by rw [← hAe]; exact Or.inr h
  have hS : va_S A s.heap s.heap [] := va_S.rf
  have hl := lv_entry ([.ref (a 0), .int p0, .int p1] : List Value) (n := 3) (Nat.le_of_ble_eq_true rfl)
  rw [lg_entry_eq]
  generalize (lg_sl ([.ref (a 0), .int p0, .int p1] : List Value) ++ List.replicate (3 - (lg_sl ([.ref (a 0), .int p0, .int p1] : List Value)).length) Slot.unset).toArray = ls at hl ⊢
  have hl : lv_has ls 3 [(0, .ref (a 0)), (1, .int p0), (2, .int p1)] := hl
  unfold SS_levelThen_w at hw
  obtain ⟨H, hH⟩ : ∃ H, H = s.heap := ⟨_, rfl⟩
  obtain ⟨locs, hlo⟩ : ∃ q : List Loc, q = [] := ⟨_, rfl⟩
  have hP : va_P (dC, dI) vwCl (cw cI cJ cG cZ a fi fl ai al) H := by rw [hH]; exact hP
  have hS : va_S A s.heap H locs := by rw [hH, hlo]; exact hS
  have key : W p l e (headSpec ws_SS_levelThen ({ frames := 5, cells := 0, slots := 0, locals := 115 })).room s m ([.ref (a 0), .int p0, .int p1] : List Value).toArray below meth c H locs 0 0 (MQ below (va_Ql (fun r (u : zw_Z) => (zw_k_fi_ai_alr fl K) r u.1 u.2.1 u.2.2.1 u.2.2.2) (fun u t => zw_E (dC, dI) vwCl [(cI, .int), (cJ, .long), (cG, .array .int), (cZ, .boolean)] A (cw cI cJ cG cZ a u.1 u.2.1 u.2.2.1 u.2.2.2) t) A) ([.ref (a 0), .int p0, .int p1] : List Value).toArray s 0 0 A) (F0 m 0 ls []) := by
    refine lv_aload_n hx hb d_SS_levelThen_0 rfl (lv_at hl 0 rfl) ?_
    refine zw_cv (va_runV (As := []) (rest := []) ⟨hx, hb, hml, hown, hts⟩ (c_SS_castAll l dC dI cI cJ cG cZ a H.size fi fl ai al _ hw) (cwV 0 hts (zw_goodV kw_423 kw_425 kw_s3 kw_1 kw_426) rfl rfl rfl hd_SS_castAll ⟨Nat.le_of_ble_eq_true rfl, Nat.le_of_ble_eq_true rfl⟩) (zw_preVw (ci := 0) (q0 := 0) hK hN hP hD rfl rfl) rfl rfl hl.1 rfl (lv_room (Nat.le_of_ble_eq_true rfl)) d_SS_levelThen_1 ⟨Nat.le_of_ble_eq_true rfl, Nat.le_of_ble_eq_true rfl⟩) hD hS hA (fun fi_1 fl_1 ai_1 al_1 H locs hw hP hD hS => ?_)
    obtain ⟨rfl, hw⟩ := hw
    refine lv_aload_n hx hb d_SS_levelThen_4 rfl (lv_at hl 0 rfl) ?_
    refine lv_iload_n hx hb d_SS_levelThen_5 rfl (lv_at hl 2 rfl) ?_
    refine zw_cv (va_runV (As := [.int p1]) (rest := []) ⟨hx, hb, hml, hown, hts⟩ (c_SS_walkTo l dC dI cI cJ cG cZ a H.size fi_1 fl ai_1 al_1 p1 _ hw) (cwV 1 hts (zw_goodV kw_469 kw_471 kw_s8 kw_1 kw_472) rfl rfl rfl hd_SS_walkTo ⟨Nat.le_of_ble_eq_true rfl, Nat.le_of_ble_eq_true rfl⟩) (zw_preVw (ci := 0) (q0 := 0) hK hN hP hD rfl rfl) rfl rfl hl.1 rfl (lv_room (Nat.le_of_ble_eq_true rfl)) d_SS_levelThen_6 ⟨Nat.le_of_ble_eq_true rfl, Nat.le_of_ble_eq_true rfl⟩) hD hS hA (fun fi_6 fl_6 ai_6 al_6 H locs hw hP hD hS => ?_)
    obtain ⟨rfl, hw⟩ := hw
    refine lv_aload_n hx hb d_SS_levelThen_9 rfl (lv_at hl 0 rfl) ?_
    refine lv_iload_n hx hb d_SS_levelThen_10 rfl (lv_at hl 1 rfl) ?_
    refine vp_callSl (va_Run.run (va_runV (As := [.int p0]) (rest := []) ⟨hx, hb, hml, hown, hts⟩ (c_SS_heightNow l dC dI cI cJ cG cZ a fi_6 fl ai_6 al_6 p0 _ hw) (cwV 1 hts (zw_goodV kw_473 kw_475 kw_s9 kw_1 kw_476) rfl rfl rfl hd_SS_heightNow ⟨Nat.le_of_ble_eq_true rfl, Nat.le_of_ble_eq_true rfl⟩) (zw_preV (ci := 0) (q0 := 0) hK hN hP rfl rfl) rfl rfl hl.1 rfl (lv_room (Nat.le_of_ble_eq_true rfl)) d_SS_levelThen_11 ⟨Nat.le_of_ble_eq_true rfl, Nat.le_of_ble_eq_true rfl⟩)) (fun r11 hw => ?_)
    exact W.lret (v := r11) hx hb hr (fun t ht hW => ⟨⟨r11, (fi_6, fl, ai_6, al_6), rfl, ⟨rfl, hw⟩, by rw [ht]; exact hP, va_K.moved hW.alike hK, hD⟩, hS.F ht⟩) hS.2.2 d_SS_levelThen_14
  rw [hH, hlo] at key
  exact key
def SS_level_w (fi : Nat → Int32) (fl : Nat → Int64) (ai : Nat → Nat → Int32) (al : Nat → Nat → Int64) (p0 : Int32) (p1 : Int32) (K : Int64 → (Nat → Int32) → (Nat → Nat → Int32) → (Nat → Nat → Int64) → Prop) : Prop :=
  SS_isThere_w fi fl ai al p0 p1 (fun (r3 : Int32) =>
  if r3 = 0 then (
    K (-1000000000000000000 : Int64) fi ai al)
  else (
    SS_levelThen_w fi fl ai al p0 p1 (fun (r16 : Int64) (fi_16 : Nat → Int32) (ai_16 : Nat → Nat → Int32) (al_16 : Nat → Nat → Int64) =>
    K r16 fi_16 ai_16 al_16)))
theorem d_SS_level_0 : decode b_SS_level 0 = .ok (.aload_n 0, 1) := by decide +kernel
theorem d_SS_level_1 : decode b_SS_level 1 = .ok (.iload_n 1, 1) := by decide +kernel
theorem d_SS_level_2 : decode b_SS_level 2 = .ok (.iload_n 2, 1) := by decide +kernel
theorem d_SS_level_3 : decode b_SS_level 3 = .ok (.invokevirtual 170, 3) := by decide +kernel
theorem d_SS_level_6 : decode b_SS_level 6 = .ok (.ifCond .ne (7), 3) := by decide +kernel
theorem d_SS_level_9 : decode b_SS_level 9 = .ok (.ldc2_w 128, 3) := by decide +kernel
theorem d_SS_level_12 : decode b_SS_level 12 = .ok (.lreturn, 1) := by decide +kernel
theorem d_SS_level_13 : decode b_SS_level 13 = .ok (.aload_n 0, 1) := by decide +kernel
theorem d_SS_level_14 : decode b_SS_level 14 = .ok (.iload_n 1, 1) := by decide +kernel
theorem d_SS_level_15 : decode b_SS_level 15 = .ok (.iload_n 2, 1) := by decide +kernel
theorem d_SS_level_16 : decode b_SS_level 16 = .ok (.invokevirtual 173, 3) := by decide +kernel
theorem d_SS_level_19 : decode b_SS_level 19 = .ok (.lreturn, 1) := by decide +kernel
set_option maxHeartbeats 4000000 in
set_option maxRecDepth 100000 in
theorem c_SS_level (l : Launch) (dC : Nat → ClassId) (dI : Nat → Nat → Nat) (cI cJ cG cZ : ClassId) (a : Nat → Nat) (sz : Nat) (fi : Nat → Int32) (fl : Nat → Int64) (ai : Nat → Nat → Int32) (al : Nat → Nat → Int64) (p0 : Int32) (p1 : Int32) (K : Int64 → (Nat → Int32) → (Nat → Nat → Int32) → (Nat → Nat → Int64) → Prop) (hw : SS_level_w fi fl ai al p0 p1 K) : Met l y_SS_level ws_SS_level ({ frames := 6, cells := 0, slots := 0, locals := 137 }) (va_Pc [.ref (a 0), .int p0, .int p1] (zw_Bw (dC, dI) vwCl [(cI, .int), (cJ, .long), (cG, .array .int), (cZ, .boolean)] (cw cI cJ cG cZ a fi fl ai al) sz)) (va_Ql (fun r (u : zw_Z) => (zw_k_fi_ai_alr fl K) r u.1 u.2.1 u.2.2.1 u.2.2.2) (fun u t => zw_E (dC, dI) vwCl [(cI, .int), (cJ, .long), (cG, .array .int), (cZ, .boolean)] (va_A (cw cI cJ cG cZ a fi fl ai al) sz) (cw cI cJ cG cZ a u.1 u.2.1 u.2.2.1 u.2.2.2) t) (va_A (cw cI cJ cG cZ a fi fl ai al) sz)) 0 0 (va_A (cw cI cJ cG cZ a fi fl ai al) sz) := by
  refine Met.ofW (cc := b_SS_level) (maxL := 3) (ret := (Option.some FieldType.long)) (by decide) rfl ?_
  intro p e s m args below meth c s₁ B hml hv
  obtain ⟨rfl, hsz, hP, hK, hD0, hN⟩ := hv
  have hx := B.exec
  have hb := B.bytes
  have hr := B.returns
  have hts := atoms_spec (ws := ws_SS_level) B.pre
  have ht : ∀ w ∈ zw_tbl, w.before _ s = true := fun w h => hts w (List.mem_cons_of_mem _ h)
  have hown : s.vm.findClass R_SS = some m.cls := findClass_of_methodNamed B.named
  have hlocks := B.notSynchronized
  subst hsz
  have hD := hD0.self (sz := s.heap.size)
  generalize hAe : va_A (cw cI cJ cG cZ a fi fl ai al) s.heap.size = A at hD ⊢
  have hA : ∀ q : Nat, s.heap.size ≤ q → A q := fun q h => by rw [← hAe]; exact Or.inr h
  have hS : va_S A s.heap s.heap [] := va_S.rf
  have hl := lv_entry ([.ref (a 0), .int p0, .int p1] : List Value) (n := 3) (Nat.le_of_ble_eq_true rfl)
  rw [lg_entry_eq]
  generalize (lg_sl ([.ref (a 0), .int p0, .int p1] : List Value) ++ List.replicate (3 - (lg_sl ([.ref (a 0), .int p0, .int p1] : List Value)).length) Slot.unset).toArray = ls at hl ⊢
  have hl : lv_has ls 3 [(0, .ref (a 0)), (1, .int p0), (2, .int p1)] := hl
  unfold SS_level_w at hw
  obtain ⟨H, hH⟩ : ∃ H, H = s.heap := ⟨_, rfl⟩
  obtain ⟨locs, hlo⟩ : ∃ q : List Loc, q = [] := ⟨_, rfl⟩
  have hP : va_P (dC, dI) vwCl (cw cI cJ cG cZ a fi fl ai al) H := by rw [hH]; exact hP
  have hS : va_S A s.heap H locs := by rw [hH, hlo]; exact hS
  have key : W p l e (headSpec ws_SS_level ({ frames := 6, cells := 0, slots := 0, locals := 137 })).room s m ([.ref (a 0), .int p0, .int p1] : List Value).toArray below meth c H locs 0 0 (MQ below (va_Ql (fun r (u : zw_Z) => (zw_k_fi_ai_alr fl K) r u.1 u.2.1 u.2.2.1 u.2.2.2) (fun u t => zw_E (dC, dI) vwCl [(cI, .int), (cJ, .long), (cG, .array .int), (cZ, .boolean)] A (cw cI cJ cG cZ a u.1 u.2.1 u.2.2.1 u.2.2.2) t) A) ([.ref (a 0), .int p0, .int p1] : List Value).toArray s 0 0 A) (F0 m 0 ls []) := by
    refine lv_aload_n hx hb d_SS_level_0 rfl (lv_at hl 0 rfl) ?_
    refine lv_iload_n hx hb d_SS_level_1 rfl (lv_at hl 1 rfl) ?_
    refine lv_iload_n hx hb d_SS_level_2 rfl (lv_at hl 2 rfl) ?_
    refine vp_callSi (va_Run.run (va_runV (As := [.int p0, .int p1]) (rest := []) ⟨hx, hb, hml, hown, hts⟩ (c_SS_isThere l dC dI cI cJ cG cZ a fi fl ai al p0 p1 _ hw) (cwV 2 hts (zw_goodV kw_407 kw_409 kw_s1 kw_1 kw_410) rfl rfl rfl hd_SS_isThere ⟨Nat.le_of_ble_eq_true rfl, Nat.le_of_ble_eq_true rfl⟩) (zw_preV (ci := 0) (q0 := 0) hK hN hP rfl rfl) rfl rfl hl.1 rfl (lv_room (Nat.le_of_ble_eq_true rfl)) d_SS_level_3 ⟨Nat.le_of_ble_eq_true rfl, Nat.le_of_ble_eq_true rfl⟩)) (fun r3 hw => ?_)
    refine lv_if_ne (tgt := 13) hx hb d_SS_level_6 (by decide) (fun c6 => ?_) (fun c6 => ?_)
    · have hw := zw_ite_f c6 hw
      refine lv_aload_n hx hb d_SS_level_13 rfl (lv_at hl 0 rfl) ?_
      refine lv_iload_n hx hb d_SS_level_14 rfl (lv_at hl 1 rfl) ?_
      refine lv_iload_n hx hb d_SS_level_15 rfl (lv_at hl 2 rfl) ?_
      refine zw_cl (va_runV (As := [.int p0, .int p1]) (rest := []) ⟨hx, hb, hml, hown, hts⟩ (c_SS_levelThen l dC dI cI cJ cG cZ a H.size fi fl ai al p0 p1 _ hw) (cwV 2 hts (zw_goodV kw_419 kw_421 kw_s2 kw_1 kw_422) rfl rfl rfl hd_SS_levelThen ⟨Nat.le_of_ble_eq_true rfl, Nat.le_of_ble_eq_true rfl⟩) (zw_preVw (ci := 0) (q0 := 0) hK hN hP hD rfl rfl) rfl rfl hl.1 rfl (lv_room (Nat.le_of_ble_eq_true rfl)) d_SS_level_16 ⟨Nat.le_of_ble_eq_true rfl, Nat.le_of_ble_eq_true rfl⟩) hD hS hA (fun r16 fi_16 fl_16 ai_16 al_16 H locs hw hP hD hS => ?_)
      obtain ⟨rfl, hw⟩ := hw
      exact W.lret (v := r16) hx hb hr (fun t ht hW => ⟨⟨r16, (fi_16, fl, ai_16, al_16), rfl, ⟨rfl, hw⟩, by rw [ht]; exact hP, va_K.moved hW.alike hK, hD⟩, hS.F ht⟩) hS.2.2 d_SS_level_19
    · have hw := zw_ite_t c6 hw
      refine lv_ldc2 (v := (-1000000000000000000 : Int64)) hx hb hown (hts (.constantLong R_SS 128 (-1000000000000000000 : Int64)) (by decide +kernel)) d_SS_level_9 ?_
      exact W.lret (v := (-1000000000000000000 : Int64)) hx hb hr (fun t ht hW => ⟨⟨(-1000000000000000000 : Int64), (fi, fl, ai, al), rfl, ⟨rfl, hw⟩, by rw [ht]; exact hP, va_K.moved hW.alike hK, hD⟩, hS.F ht⟩) hS.2.2 d_SS_level_12
  rw [hH, hlo] at key
  exact key
def SS_of_w (fi : Nat → Int32) (fl : Nat → Int64) (ai : Nat → Nat → Int32) (al : Nat → Nat → Int64) (p0 : Int32) (p1 : Int32) (K : Int64 → (Nat → Int32) → (Nat → Nat → Int32) → (Nat → Nat → Int64) → Prop) : Prop :=
  Gi_hasPart_w fi fl ai al p0 (fun (r5 : Int32) =>
  if r5 = 0 then (
    K (-1000000000000000000 : Int64) fi ai al)
  else (
    Pl_placeOf_w fi fl ai al p0 (fun (r16 : Int32) =>
    if 0 ≤ r16 then (
      SS_castAll_w fi fl ai al  (fun (fi_27 : Nat → Int32) (ai_27 : Nat → Nat → Int32) (al_27 : Nat → Nat → Int64) =>
      if p1 = (0 : Int32) then (
        vp_in p0 6 ∧ (
        K (al_27 18 p0.toNatClampNeg) fi_27 ai_27 al_27))
      else (if p1 = (1 : Int32) then (
        vp_in p0 6 ∧ (
        K (-(al_27 41 p0.toNatClampNeg)) fi_27 ai_27 al_27))
      else (if p1 = (2 : Int32) then (
        vp_in p0 6 ∧ (
        K (al_27 17 p0.toNatClampNeg) fi_27 ai_27 al_27))
      else (if p1 = (3 : Int32) then (
        vp_in p0 6 ∧ (
        K (al_27 41 p0.toNatClampNeg) fi_27 ai_27 al_27))
      else (if p1 = (4 : Int32) then (
        Pl_stageOf_w fi_27 fl ai_27 al_27 p0 (fun (r104 : Int32) =>
        K r104.toInt64 fi_27 ai_27 al_27))
      else (
        K (-1000000000000000000 : Int64) fi_27 ai_27 al_27)))))))
    else (
      K (-1000000000000000000 : Int64) fi ai al))))
theorem d_SS_of_0 : decode b_SS_of 0 = .ok (.aload_n 0, 1) := by decide +kernel
theorem d_SS_of_1 : decode b_SS_of 1 = .ok (.getfield 55, 3) := by decide +kernel
theorem d_SS_of_4 : decode b_SS_of 4 = .ok (.iload_n 1, 1) := by decide +kernel
theorem d_SS_of_5 : decode b_SS_of 5 = .ok (.invokevirtual 77, 3) := by decide +kernel
theorem d_SS_of_8 : decode b_SS_of 8 = .ok (.ifCond .eq (14), 3) := by decide +kernel
theorem d_SS_of_11 : decode b_SS_of 11 = .ok (.aload_n 0, 1) := by decide +kernel
theorem d_SS_of_12 : decode b_SS_of 12 = .ok (.getfield 19, 3) := by decide +kernel
theorem d_SS_of_15 : decode b_SS_of 15 = .ok (.iload_n 1, 1) := by decide +kernel
theorem d_SS_of_16 : decode b_SS_of 16 = .ok (.invokevirtual 117, 3) := by decide +kernel
theorem d_SS_of_19 : decode b_SS_of 19 = .ok (.ifCond .ge (7), 3) := by decide +kernel
theorem d_SS_of_22 : decode b_SS_of 22 = .ok (.ldc2_w 128, 3) := by decide +kernel
theorem d_SS_of_25 : decode b_SS_of 25 = .ok (.lreturn, 1) := by decide +kernel
theorem d_SS_of_26 : decode b_SS_of 26 = .ok (.aload_n 0, 1) := by decide +kernel
theorem d_SS_of_27 : decode b_SS_of 27 = .ok (.invokevirtual 177, 3) := by decide +kernel
theorem d_SS_of_30 : decode b_SS_of 30 = .ok (.iload_n 2, 1) := by decide +kernel
theorem d_SS_of_31 : decode b_SS_of 31 = .ok (.tableswitch (78) (0) (4) #[33, 40, 51, 58, 68], 33) := by decide +kernel
theorem d_SS_of_64 : decode b_SS_of 64 = .ok (.aload_n 0, 1) := by decide +kernel
theorem d_SS_of_65 : decode b_SS_of 65 = .ok (.getfield 34, 3) := by decide +kernel
theorem d_SS_of_68 : decode b_SS_of 68 = .ok (.iload_n 1, 1) := by decide +kernel
theorem d_SS_of_69 : decode b_SS_of 69 = .ok (.laload, 1) := by decide +kernel
theorem d_SS_of_70 : decode b_SS_of 70 = .ok (.lreturn, 1) := by decide +kernel
theorem d_SS_of_71 : decode b_SS_of 71 = .ok (.aload_n 0, 1) := by decide +kernel
theorem d_SS_of_72 : decode b_SS_of 72 = .ok (.getfield 64, 3) := by decide +kernel
theorem d_SS_of_75 : decode b_SS_of 75 = .ok (.getfield 180, 3) := by decide +kernel
theorem d_SS_of_78 : decode b_SS_of 78 = .ok (.iload_n 1, 1) := by decide +kernel
theorem d_SS_of_79 : decode b_SS_of 79 = .ok (.laload, 1) := by decide +kernel
theorem d_SS_of_80 : decode b_SS_of 80 = .ok (.lneg, 1) := by decide +kernel
theorem d_SS_of_81 : decode b_SS_of 81 = .ok (.lreturn, 1) := by decide +kernel
theorem d_SS_of_82 : decode b_SS_of 82 = .ok (.aload_n 0, 1) := by decide +kernel
theorem d_SS_of_83 : decode b_SS_of 83 = .ok (.getfield 30, 3) := by decide +kernel
theorem d_SS_of_86 : decode b_SS_of 86 = .ok (.iload_n 1, 1) := by decide +kernel
theorem d_SS_of_87 : decode b_SS_of 87 = .ok (.laload, 1) := by decide +kernel
theorem d_SS_of_88 : decode b_SS_of 88 = .ok (.lreturn, 1) := by decide +kernel
theorem d_SS_of_89 : decode b_SS_of 89 = .ok (.aload_n 0, 1) := by decide +kernel
theorem d_SS_of_90 : decode b_SS_of 90 = .ok (.getfield 64, 3) := by decide +kernel
theorem d_SS_of_93 : decode b_SS_of 93 = .ok (.getfield 180, 3) := by decide +kernel
theorem d_SS_of_96 : decode b_SS_of 96 = .ok (.iload_n 1, 1) := by decide +kernel
theorem d_SS_of_97 : decode b_SS_of 97 = .ok (.laload, 1) := by decide +kernel
theorem d_SS_of_98 : decode b_SS_of 98 = .ok (.lreturn, 1) := by decide +kernel
theorem d_SS_of_99 : decode b_SS_of 99 = .ok (.aload_n 0, 1) := by decide +kernel
theorem d_SS_of_100 : decode b_SS_of 100 = .ok (.getfield 19, 3) := by decide +kernel
theorem d_SS_of_103 : decode b_SS_of 103 = .ok (.iload_n 1, 1) := by decide +kernel
theorem d_SS_of_104 : decode b_SS_of 104 = .ok (.invokevirtual 183, 3) := by decide +kernel
theorem d_SS_of_107 : decode b_SS_of 107 = .ok (.i2l, 1) := by decide +kernel
theorem d_SS_of_108 : decode b_SS_of 108 = .ok (.lreturn, 1) := by decide +kernel
theorem d_SS_of_109 : decode b_SS_of 109 = .ok (.ldc2_w 128, 3) := by decide +kernel
theorem d_SS_of_112 : decode b_SS_of 112 = .ok (.lreturn, 1) := by decide +kernel
set_option maxHeartbeats 4000000 in
set_option maxRecDepth 100000 in
theorem c_SS_of (l : Launch) (dC : Nat → ClassId) (dI : Nat → Nat → Nat) (cI cJ cG cZ : ClassId) (a : Nat → Nat) (sz : Nat) (fi : Nat → Int32) (fl : Nat → Int64) (ai : Nat → Nat → Int32) (al : Nat → Nat → Int64) (p0 : Int32) (p1 : Int32) (K : Int64 → (Nat → Int32) → (Nat → Nat → Int32) → (Nat → Nat → Int64) → Prop) (hw : SS_of_w fi fl ai al p0 p1 K) : Met l y_SS_of ws_SS_of ({ frames := 5, cells := 0, slots := 0, locals := 115 }) (va_Pc [.ref (a 0), .int p0, .int p1] (zw_Bw (dC, dI) vwCl [(cI, .int), (cJ, .long), (cG, .array .int), (cZ, .boolean)] (cw cI cJ cG cZ a fi fl ai al) sz)) (va_Ql (fun r (u : zw_Z) => (zw_k_fi_ai_alr fl K) r u.1 u.2.1 u.2.2.1 u.2.2.2) (fun u t => zw_E (dC, dI) vwCl [(cI, .int), (cJ, .long), (cG, .array .int), (cZ, .boolean)] (va_A (cw cI cJ cG cZ a fi fl ai al) sz) (cw cI cJ cG cZ a u.1 u.2.1 u.2.2.1 u.2.2.2) t) (va_A (cw cI cJ cG cZ a fi fl ai al) sz)) 0 0 (va_A (cw cI cJ cG cZ a fi fl ai al) sz) := by
  refine Met.ofW (cc := b_SS_of) (maxL := 3) (ret := (Option.some FieldType.long)) (by decide) rfl ?_
  intro p e s m args below meth c s₁ B hml hv
  obtain ⟨rfl, hsz, hP, hK, hD0, hN⟩ := hv
  have hx := B.exec
  have hb := B.bytes
  have hr := B.returns
  have hts := atoms_spec (ws := ws_SS_of) B.pre
  have ht : ∀ w ∈ zw_tbl, w.before _ s = true := fun w h => hts w (List.mem_cons_of_mem _ h)
  have hown : s.vm.findClass R_SS = some m.cls := findClass_of_methodNamed B.named
  have hlocks := B.notSynchronized
  subst hsz
  have hD := hD0.self (sz := s.heap.size)
  generalize hAe : va_A (cw cI cJ cG cZ a fi fl ai al) s.heap.size = A at hD ⊢
  have hA : ∀ q : Nat, s.heap.size ≤ q → A q := fun q h => by rw [← hAe]; exact Or.inr h
  have hS : va_S A s.heap s.heap [] := va_S.rf
  have hl := lv_entry ([.ref (a 0), .int p0, .int p1] : List Value) (n := 3) (Nat.le_of_ble_eq_true rfl)
  rw [lg_entry_eq]
  generalize (lg_sl ([.ref (a 0), .int p0, .int p1] : List Value) ++ List.replicate (3 - (lg_sl ([.ref (a 0), .int p0, .int p1] : List Value)).length) Slot.unset).toArray = ls at hl ⊢
  have hl : lv_has ls 3 [(0, .ref (a 0)), (1, .int p0), (2, .int p1)] := hl
  unfold SS_of_w at hw
  obtain ⟨H, hH⟩ : ∃ H, H = s.heap := ⟨_, rfl⟩
  obtain ⟨locs, hlo⟩ : ∃ q : List Loc, q = [] := ⟨_, rfl⟩
  have hP : va_P (dC, dI) vwCl (cw cI cJ cG cZ a fi fl ai al) H := by rw [hH]; exact hP
  have hS : va_S A s.heap H locs := by rw [hH, hlo]; exact hS
  have key : W p l e (headSpec ws_SS_of ({ frames := 5, cells := 0, slots := 0, locals := 115 })).room s m ([.ref (a 0), .int p0, .int p1] : List Value).toArray below meth c H locs 0 0 (MQ below (va_Ql (fun r (u : zw_Z) => (zw_k_fi_ai_alr fl K) r u.1 u.2.1 u.2.2.1 u.2.2.2) (fun u t => zw_E (dC, dI) vwCl [(cI, .int), (cJ, .long), (cG, .array .int), (cZ, .boolean)] A (cw cI cJ cG cZ a u.1 u.2.1 u.2.2.1 u.2.2.2) t) A) ([.ref (a 0), .int p0, .int p1] : List Value).toArray s 0 0 A) (F0 m 0 ls []) := by
    refine lv_aload_n hx hb d_SS_of_0 rfl (lv_at hl 0 rfl) ?_
    refine va_get (D := (dC, dI)) (ci := 0) (v := .ref (a 19)) (C := R_SS) (T := T_SS) (N := 9) hx hb ht in_SS hown hK hP 0 rfl rfl 0 (by decide) (ht _ kw_242) (fun _ h9 => h9) rfl d_SS_of_1 ?_
    refine lv_iload_n hx hb d_SS_of_4 rfl (lv_at hl 1 rfl) ?_
    refine vp_callSi (va_Run.run (va_runV (As := [.int p0]) (rest := []) ⟨hx, hb, hml, hown, hts⟩ (c_Gi_hasPart l dC dI cI cJ cG cZ a fi fl ai al p0 _ hw) (cwV 1 hts (zw_goodV kw_274 kw_275 kw_276 kw_5 kw_277) rfl rfl rfl hd_Gi_hasPart ⟨Nat.le_of_ble_eq_true rfl, Nat.le_of_ble_eq_true rfl⟩) (zw_preV (ci := 2) (q0 := 19) hK hN hP rfl rfl) rfl rfl hl.1 rfl (lv_room (Nat.le_of_ble_eq_true rfl)) d_SS_of_5 ⟨Nat.le_of_ble_eq_true rfl, Nat.le_of_ble_eq_true rfl⟩)) (fun r5 hw => ?_)
    refine lv_if_eq (tgt := 22) hx hb d_SS_of_8 (by decide) (fun c8 => ?_) (fun c8 => ?_)
    · have hw := zw_ite_t c8 hw
      refine lv_ldc2 (v := (-1000000000000000000 : Int64)) hx hb hown (hts (.constantLong R_SS 128 (-1000000000000000000 : Int64)) (by decide +kernel)) d_SS_of_22 ?_
      exact W.lret (v := (-1000000000000000000 : Int64)) hx hb hr (fun t ht hW => ⟨⟨(-1000000000000000000 : Int64), (fi, fl, ai, al), rfl, ⟨rfl, hw⟩, by rw [ht]; exact hP, va_K.moved hW.alike hK, hD⟩, hS.F ht⟩) hS.2.2 d_SS_of_25
    · have hw := zw_ite_f c8 hw
      refine lv_aload_n hx hb d_SS_of_11 rfl (lv_at hl 0 rfl) ?_
      refine va_get (D := (dC, dI)) (ci := 0) (v := .ref (a 4)) (C := R_SS) (T := T_SS) (N := 9) hx hb ht in_SS hown hK hP 0 rfl rfl 2 (by decide) (ht _ kw_244) (fun _ h9 => h9) rfl d_SS_of_12 ?_
      refine lv_iload_n hx hb d_SS_of_15 rfl (lv_at hl 1 rfl) ?_
      refine vp_callSi (va_Run.run (va_runV (As := [.int p0]) (rest := []) ⟨hx, hb, hml, hown, hts⟩ (c_Pl_placeOf l dC dI cI cJ cG cZ a fi fl ai al p0 _ hw) (cwV 1 hts (zw_goodV kw_322 kw_323 kw_324 kw_3 kw_325) rfl rfl rfl hd_Pl_placeOf ⟨Nat.le_of_ble_eq_true rfl, Nat.le_of_ble_eq_true rfl⟩) (zw_preV (ci := 3) (q0 := 4) hK hN hP rfl rfl) rfl rfl hl.1 rfl (lv_room (Nat.le_of_ble_eq_true rfl)) d_SS_of_16 ⟨Nat.le_of_ble_eq_true rfl, Nat.le_of_ble_eq_true rfl⟩)) (fun r16 hw => ?_)
      refine lv_if_ge (tgt := 26) hx hb d_SS_of_19 (by decide) (fun c19 => ?_) (fun c19 => ?_)
      · have hw := zw_ite_t c19 hw
        refine lv_aload_n hx hb d_SS_of_26 rfl (lv_at hl 0 rfl) ?_
        refine zw_cv (va_runV (As := []) (rest := []) ⟨hx, hb, hml, hown, hts⟩ (c_SS_castAll l dC dI cI cJ cG cZ a H.size fi fl ai al _ hw) (cwV 0 hts (zw_goodV kw_423 kw_425 kw_s3 kw_1 kw_426) rfl rfl rfl hd_SS_castAll ⟨Nat.le_of_ble_eq_true rfl, Nat.le_of_ble_eq_true rfl⟩) (zw_preVw (ci := 0) (q0 := 0) hK hN hP hD rfl rfl) rfl rfl hl.1 rfl (lv_room (Nat.le_of_ble_eq_true rfl)) d_SS_of_27 ⟨Nat.le_of_ble_eq_true rfl, Nat.le_of_ble_eq_true rfl⟩) hD hS hA (fun fi_27 fl_27 ai_27 al_27 H locs hw hP hD hS => ?_)
        obtain ⟨rfl, hw⟩ := hw
        refine lv_iload_n hx hb d_SS_of_30 rfl (lv_at hl 2 rfl) ?_
        by_cases c31_0 : p1 = (0 : Int32)
        · have hw := zw_ite_t c31_0 hw
          refine lv_tableIn (off := 33) (tgt := 64) hx hb d_SS_of_31 (by rw [c31_0]; decide) (by rw [c31_0]; decide) (by rw [c31_0]; rfl) (by decide) ?_
          refine lv_aload_n hx hb d_SS_of_64 rfl (lv_at hl 0 rfl) ?_
          refine va_get (D := (dC, dI)) (ci := 0) (v := .ref (a 18)) (C := R_SS) (T := T_SS) (N := 9) hx hb ht in_SS hown hK hP 0 rfl rfl 7 (by decide) (ht _ kw_249) (fun _ h9 => h9) rfl d_SS_of_65 ?_
          refine lv_iload_n hx hb d_SS_of_68 rfl (lv_at hl 1 rfl) ?_
          obtain ⟨h69, hw⟩ := hw
          refine va_lald (f := al_27 18) hx hb hK hP 18 1 rfl rfl h69 d_SS_of_69 ?_
          exact W.lret (v := (al_27 18 p0.toNatClampNeg)) hx hb hr (fun t ht hW => ⟨⟨(al_27 18 p0.toNatClampNeg), (fi_27, fl, ai_27, al_27), rfl, ⟨rfl, hw⟩, by rw [ht]; exact hP, va_K.moved hW.alike hK, hD⟩, hS.F ht⟩) hS.2.2 d_SS_of_70
        · have hw := zw_ite_f c31_0 hw
          by_cases c31_1 : p1 = (1 : Int32)
          · have hw := zw_ite_t c31_1 hw
            refine lv_tableIn (off := 40) (tgt := 71) hx hb d_SS_of_31 (by rw [c31_1]; decide) (by rw [c31_1]; decide) (by rw [c31_1]; rfl) (by decide) ?_
            refine lv_aload_n hx hb d_SS_of_71 rfl (lv_at hl 0 rfl) ?_
            refine va_get (D := (dC, dI)) (ci := 0) (v := .ref (a 40)) (C := R_SS) (T := T_SS) (N := 9) hx hb ht in_SS hown hK hP 0 rfl rfl 4 (by decide) (ht _ kw_246) (fun _ h9 => h9) rfl d_SS_of_72 ?_
            refine va_get (D := (dC, dI)) (ci := 6) (v := .ref (a 41)) (C := R_Wa) (T := T_Wa) (N := 11) hx hb ht in_Wa hown hK hP 40 rfl rfl 3 (by decide) (ht _ kw_180) (fun _ h9 => h9) rfl d_SS_of_75 ?_
            refine lv_iload_n hx hb d_SS_of_78 rfl (lv_at hl 1 rfl) ?_
            obtain ⟨h79, hw⟩ := hw
            refine va_lald (f := al_27 41) hx hb hK hP 41 1 rfl rfl h79 d_SS_of_79 ?_
            refine lv_lneg hx hb d_SS_of_80 ?_
            exact W.lret (v := (-(al_27 41 p0.toNatClampNeg))) hx hb hr (fun t ht hW => ⟨⟨(-(al_27 41 p0.toNatClampNeg)), (fi_27, fl, ai_27, al_27), rfl, ⟨rfl, hw⟩, by rw [ht]; exact hP, va_K.moved hW.alike hK, hD⟩, hS.F ht⟩) hS.2.2 d_SS_of_81
          · have hw := zw_ite_f c31_1 hw
            by_cases c31_2 : p1 = (2 : Int32)
            · have hw := zw_ite_t c31_2 hw
              refine lv_tableIn (off := 51) (tgt := 82) hx hb d_SS_of_31 (by rw [c31_2]; decide) (by rw [c31_2]; decide) (by rw [c31_2]; rfl) (by decide) ?_
              refine lv_aload_n hx hb d_SS_of_82 rfl (lv_at hl 0 rfl) ?_
              refine va_get (D := (dC, dI)) (ci := 0) (v := .ref (a 17)) (C := R_SS) (T := T_SS) (N := 9) hx hb ht in_SS hown hK hP 0 rfl rfl 6 (by decide) (ht _ kw_248) (fun _ h9 => h9) rfl d_SS_of_83 ?_
              refine lv_iload_n hx hb d_SS_of_86 rfl (lv_at hl 1 rfl) ?_
              obtain ⟨h87, hw⟩ := hw
              refine va_lald (f := al_27 17) hx hb hK hP 17 1 rfl rfl h87 d_SS_of_87 ?_
              exact W.lret (v := (al_27 17 p0.toNatClampNeg)) hx hb hr (fun t ht hW => ⟨⟨(al_27 17 p0.toNatClampNeg), (fi_27, fl, ai_27, al_27), rfl, ⟨rfl, hw⟩, by rw [ht]; exact hP, va_K.moved hW.alike hK, hD⟩, hS.F ht⟩) hS.2.2 d_SS_of_88
            · have hw := zw_ite_f c31_2 hw
              by_cases c31_3 : p1 = (3 : Int32)
              · have hw := zw_ite_t c31_3 hw
                refine lv_tableIn (off := 58) (tgt := 89) hx hb d_SS_of_31 (by rw [c31_3]; decide) (by rw [c31_3]; decide) (by rw [c31_3]; rfl) (by decide) ?_
                refine lv_aload_n hx hb d_SS_of_89 rfl (lv_at hl 0 rfl) ?_
                refine va_get (D := (dC, dI)) (ci := 0) (v := .ref (a 40)) (C := R_SS) (T := T_SS) (N := 9) hx hb ht in_SS hown hK hP 0 rfl rfl 4 (by decide) (ht _ kw_246) (fun _ h9 => h9) rfl d_SS_of_90 ?_
                refine va_get (D := (dC, dI)) (ci := 6) (v := .ref (a 41)) (C := R_Wa) (T := T_Wa) (N := 11) hx hb ht in_Wa hown hK hP 40 rfl rfl 3 (by decide) (ht _ kw_180) (fun _ h9 => h9) rfl d_SS_of_93 ?_
                refine lv_iload_n hx hb d_SS_of_96 rfl (lv_at hl 1 rfl) ?_
                obtain ⟨h97, hw⟩ := hw
                refine va_lald (f := al_27 41) hx hb hK hP 41 1 rfl rfl h97 d_SS_of_97 ?_
                exact W.lret (v := (al_27 41 p0.toNatClampNeg)) hx hb hr (fun t ht hW => ⟨⟨(al_27 41 p0.toNatClampNeg), (fi_27, fl, ai_27, al_27), rfl, ⟨rfl, hw⟩, by rw [ht]; exact hP, va_K.moved hW.alike hK, hD⟩, hS.F ht⟩) hS.2.2 d_SS_of_98
              · have hw := zw_ite_f c31_3 hw
                by_cases c31_4 : p1 = (4 : Int32)
                · have hw := zw_ite_t c31_4 hw
                  refine lv_tableIn (off := 68) (tgt := 99) hx hb d_SS_of_31 (by rw [c31_4]; decide) (by rw [c31_4]; decide) (by rw [c31_4]; rfl) (by decide) ?_
                  refine lv_aload_n hx hb d_SS_of_99 rfl (lv_at hl 0 rfl) ?_
                  refine va_get (D := (dC, dI)) (ci := 0) (v := .ref (a 4)) (C := R_SS) (T := T_SS) (N := 9) hx hb ht in_SS hown hK hP 0 rfl rfl 2 (by decide) (ht _ kw_244) (fun _ h9 => h9) rfl d_SS_of_100 ?_
                  refine lv_iload_n hx hb d_SS_of_103 rfl (lv_at hl 1 rfl) ?_
                  refine vp_callSi (va_Run.run (va_runV (As := [.int p0]) (rest := []) ⟨hx, hb, hml, hown, hts⟩ (c_Pl_stageOf l dC dI cI cJ cG cZ a fi_27 fl ai_27 al_27 p0 _ hw) (cwV 1 hts (zw_goodV kw_415 kw_416 kw_417 kw_3 kw_418) rfl rfl rfl hd_Pl_stageOf ⟨Nat.le_of_ble_eq_true rfl, Nat.le_of_ble_eq_true rfl⟩) (zw_preV (ci := 3) (q0 := 4) hK hN hP rfl rfl) rfl rfl hl.1 rfl (lv_room (Nat.le_of_ble_eq_true rfl)) d_SS_of_104 ⟨Nat.le_of_ble_eq_true rfl, Nat.le_of_ble_eq_true rfl⟩)) (fun r104 hw => ?_)
                  refine lv_i2l hx hb d_SS_of_107 rfl ?_
                  exact W.lret (v := r104.toInt64) hx hb hr (fun t ht hW => ⟨⟨r104.toInt64, (fi_27, fl, ai_27, al_27), rfl, ⟨rfl, hw⟩, by rw [ht]; exact hP, va_K.moved hW.alike hK, hD⟩, hS.F ht⟩) hS.2.2 d_SS_of_108
                · have hw := zw_ite_f c31_4 hw
                  refine lv_tableOut (tgt := 109) hx hb d_SS_of_31 (by have := lv_neT (a := 0) c31_0 (by decide); have := lv_neT (a := 1) c31_1 (by decide); have := lv_neT (a := 2) c31_2 (by decide); have := lv_neT (a := 3) c31_3 (by decide); have := lv_neT (a := 4) c31_4 (by decide); omega) (by decide) ?_
                  refine lv_ldc2 (v := (-1000000000000000000 : Int64)) hx hb hown (hts (.constantLong R_SS 128 (-1000000000000000000 : Int64)) (by decide +kernel)) d_SS_of_109 ?_
                  exact W.lret (v := (-1000000000000000000 : Int64)) hx hb hr (fun t ht hW => ⟨⟨(-1000000000000000000 : Int64), (fi_27, fl, ai_27, al_27), rfl, ⟨rfl, hw⟩, by rw [ht]; exact hP, va_K.moved hW.alike hK, hD⟩, hS.F ht⟩) hS.2.2 d_SS_of_112
      · have hw := zw_ite_f c19 hw
        refine lv_ldc2 (v := (-1000000000000000000 : Int64)) hx hb hown (hts (.constantLong R_SS 128 (-1000000000000000000 : Int64)) (by decide +kernel)) d_SS_of_22 ?_
        exact W.lret (v := (-1000000000000000000 : Int64)) hx hb hr (fun t ht hW => ⟨⟨(-1000000000000000000 : Int64), (fi, fl, ai, al), rfl, ⟨rfl, hw⟩, by rw [ht]; exact hP, va_K.moved hW.alike hK, hD⟩, hS.F ht⟩) hS.2.2 d_SS_of_25
  rw [hH, hlo] at key
  exact key
def SS_carries_w (fi : Nat → Int32) (fl : Nat → Int64) (ai : Nat → Nat → Int32) (al : Nat → Nat → Int64) (p0 : Int32) (p1 : Int32) (K : Int64 → (Nat → Int32) → (Nat → Nat → Int32) → (Nat → Nat → Int64) → Prop) : Prop :=
  SS_isSupport_w p0 (fun (r1 : Int32) =>
  if r1 = 0 then (
    K (-1000000000000000000 : Int64) fi ai al)
  else (
    Pl_hasStage_w fi fl ai al p1 (fun (r12 : Int32) =>
    if r12 = 0 then (
      K (-1000000000000000000 : Int64) fi ai al)
    else (
      SS_walkTo_w fi fl ai al p1 (fun (fi_24 : Nat → Int32) (ai_24 : Nat → Nat → Int32) (al_24 : Nat → Nat → Int64) =>
      vp_in p0 3 ∧ (
      K (al_24 42 p0.toNatClampNeg) fi_24 ai_24 al_24))))))
theorem d_SS_carries_0 : decode b_SS_carries 0 = .ok (.iload_n 1, 1) := by decide +kernel
theorem d_SS_carries_1 : decode b_SS_carries 1 = .ok (.invokestatic 101, 3) := by decide +kernel
theorem d_SS_carries_4 : decode b_SS_carries 4 = .ok (.ifCond .eq (14), 3) := by decide +kernel
theorem d_SS_carries_7 : decode b_SS_carries 7 = .ok (.aload_n 0, 1) := by decide +kernel
theorem d_SS_carries_8 : decode b_SS_carries 8 = .ok (.getfield 19, 3) := by decide +kernel
theorem d_SS_carries_11 : decode b_SS_carries 11 = .ok (.iload_n 2, 1) := by decide +kernel
theorem d_SS_carries_12 : decode b_SS_carries 12 = .ok (.invokevirtual 186, 3) := by decide +kernel
theorem d_SS_carries_15 : decode b_SS_carries 15 = .ok (.ifCond .ne (7), 3) := by decide +kernel
theorem d_SS_carries_18 : decode b_SS_carries 18 = .ok (.ldc2_w 128, 3) := by decide +kernel
theorem d_SS_carries_21 : decode b_SS_carries 21 = .ok (.lreturn, 1) := by decide +kernel
theorem d_SS_carries_22 : decode b_SS_carries 22 = .ok (.aload_n 0, 1) := by decide +kernel
theorem d_SS_carries_23 : decode b_SS_carries 23 = .ok (.iload_n 2, 1) := by decide +kernel
theorem d_SS_carries_24 : decode b_SS_carries 24 = .ok (.invokevirtual 189, 3) := by decide +kernel
theorem d_SS_carries_27 : decode b_SS_carries 27 = .ok (.aload_n 0, 1) := by decide +kernel
theorem d_SS_carries_28 : decode b_SS_carries 28 = .ok (.getfield 64, 3) := by decide +kernel
theorem d_SS_carries_31 : decode b_SS_carries 31 = .ok (.getfield 192, 3) := by decide +kernel
theorem d_SS_carries_34 : decode b_SS_carries 34 = .ok (.iload_n 1, 1) := by decide +kernel
theorem d_SS_carries_35 : decode b_SS_carries 35 = .ok (.laload, 1) := by decide +kernel
theorem d_SS_carries_36 : decode b_SS_carries 36 = .ok (.lreturn, 1) := by decide +kernel
set_option maxHeartbeats 4000000 in
set_option maxRecDepth 100000 in
theorem c_SS_carries (l : Launch) (dC : Nat → ClassId) (dI : Nat → Nat → Nat) (cI cJ cG cZ : ClassId) (a : Nat → Nat) (sz : Nat) (fi : Nat → Int32) (fl : Nat → Int64) (ai : Nat → Nat → Int32) (al : Nat → Nat → Int64) (p0 : Int32) (p1 : Int32) (K : Int64 → (Nat → Int32) → (Nat → Nat → Int32) → (Nat → Nat → Int64) → Prop) (hw : SS_carries_w fi fl ai al p0 p1 K) : Met l y_SS_carries ws_SS_carries ({ frames := 5, cells := 0, slots := 0, locals := 115 }) (va_Pc [.ref (a 0), .int p0, .int p1] (zw_Bw (dC, dI) vwCl [(cI, .int), (cJ, .long), (cG, .array .int), (cZ, .boolean)] (cw cI cJ cG cZ a fi fl ai al) sz)) (va_Ql (fun r (u : zw_Z) => (zw_k_fi_ai_alr fl K) r u.1 u.2.1 u.2.2.1 u.2.2.2) (fun u t => zw_E (dC, dI) vwCl [(cI, .int), (cJ, .long), (cG, .array .int), (cZ, .boolean)] (va_A (cw cI cJ cG cZ a fi fl ai al) sz) (cw cI cJ cG cZ a u.1 u.2.1 u.2.2.1 u.2.2.2) t) (va_A (cw cI cJ cG cZ a fi fl ai al) sz)) 0 0 (va_A (cw cI cJ cG cZ a fi fl ai al) sz) := by
  refine Met.ofW (cc := b_SS_carries) (maxL := 3) (ret := (Option.some FieldType.long)) (by decide) rfl ?_
  intro p e s m args below meth c s₁ B hml hv
  obtain ⟨rfl, hsz, hP, hK, hD0, hN⟩ := hv
  have hx := B.exec
  have hb := B.bytes
  have hr := B.returns
  have hts := atoms_spec (ws := ws_SS_carries) B.pre
  have ht : ∀ w ∈ zw_tbl, w.before _ s = true := fun w h => hts w (List.mem_cons_of_mem _ h)
  have hown : s.vm.findClass R_SS = some m.cls := findClass_of_methodNamed B.named
  have hlocks := B.notSynchronized
  subst hsz
  have hD := hD0.self (sz := s.heap.size)
  generalize hAe : va_A (cw cI cJ cG cZ a fi fl ai al) s.heap.size = A at hD ⊢
  have hA : ∀ q : Nat, s.heap.size ≤ q → A q := fun q h => by rw [← hAe]; exact Or.inr h
  have hS : va_S A s.heap s.heap [] := va_S.rf
  have hl := lv_entry ([.ref (a 0), .int p0, .int p1] : List Value) (n := 3) (Nat.le_of_ble_eq_true rfl)
  rw [lg_entry_eq]
  generalize (lg_sl ([.ref (a 0), .int p0, .int p1] : List Value) ++ List.replicate (3 - (lg_sl ([.ref (a 0), .int p0, .int p1] : List Value)).length) Slot.unset).toArray = ls at hl ⊢
  have hl : lv_has ls 3 [(0, .ref (a 0)), (1, .int p0), (2, .int p1)] := hl
  unfold SS_carries_w at hw
  obtain ⟨H, hH⟩ : ∃ H, H = s.heap := ⟨_, rfl⟩
  obtain ⟨locs, hlo⟩ : ∃ q : List Loc, q = [] := ⟨_, rfl⟩
  have hP : va_P (dC, dI) vwCl (cw cI cJ cG cZ a fi fl ai al) H := by rw [hH]; exact hP
  have hS : va_S A s.heap H locs := by rw [hH, hlo]; exact hS
  have key : W p l e (headSpec ws_SS_carries ({ frames := 5, cells := 0, slots := 0, locals := 115 })).room s m ([.ref (a 0), .int p0, .int p1] : List Value).toArray below meth c H locs 0 0 (MQ below (va_Ql (fun r (u : zw_Z) => (zw_k_fi_ai_alr fl K) r u.1 u.2.1 u.2.2.1 u.2.2.2) (fun u t => zw_E (dC, dI) vwCl [(cI, .int), (cJ, .long), (cG, .array .int), (cZ, .boolean)] A (cw cI cJ cG cZ a u.1 u.2.1 u.2.2.1 u.2.2.2) t) A) ([.ref (a 0), .int p0, .int p1] : List Value).toArray s 0 0 A) (F0 m 0 ls []) := by
    refine lv_iload_n hx hb d_SS_carries_0 rfl (lv_at hl 1 rfl) ?_
    refine vp_callSi (va_Run.run (va_runS (As := [.int p0]) (rest := []) ⟨hx, hb, hml, hown, hts⟩ (c_SS_isSupport l p0 _ hw) (va_cwS 1 hts (zw_goodS kw_295 kw_296 kw_1 kw_297) rfl rfl rfl hd_SS_isSupport.2 ⟨Nat.le_of_ble_eq_true rfl, Nat.le_of_ble_eq_true rfl⟩) zw_preS0 rfl rfl hl.1 rfl (lv_room (Nat.le_of_ble_eq_true rfl)) d_SS_carries_1 ⟨Nat.le_of_ble_eq_true rfl, Nat.le_of_ble_eq_true rfl⟩)) (fun r1 hw => ?_)
    refine lv_if_eq (tgt := 18) hx hb d_SS_carries_4 (by decide) (fun c4 => ?_) (fun c4 => ?_)
    · have hw := zw_ite_t c4 hw
      refine lv_ldc2 (v := (-1000000000000000000 : Int64)) hx hb hown (hts (.constantLong R_SS 128 (-1000000000000000000 : Int64)) (by decide +kernel)) d_SS_carries_18 ?_
      exact W.lret (v := (-1000000000000000000 : Int64)) hx hb hr (fun t ht hW => ⟨⟨(-1000000000000000000 : Int64), (fi, fl, ai, al), rfl, ⟨rfl, hw⟩, by rw [ht]; exact hP, va_K.moved hW.alike hK, hD⟩, hS.F ht⟩) hS.2.2 d_SS_carries_21
    · have hw := zw_ite_f c4 hw
      refine lv_aload_n hx hb d_SS_carries_7 rfl (lv_at hl 0 rfl) ?_
      refine va_get (D := (dC, dI)) (ci := 0) (v := .ref (a 4)) (C := R_SS) (T := T_SS) (N := 9) hx hb ht in_SS hown hK hP 0 rfl rfl 2 (by decide) (ht _ kw_244) (fun _ h9 => h9) rfl d_SS_carries_8 ?_
      refine lv_iload_n hx hb d_SS_carries_11 rfl (lv_at hl 2 rfl) ?_
      refine vp_callSi (va_Run.run (va_runV (As := [.int p1]) (rest := []) ⟨hx, hb, hml, hown, hts⟩ (c_Pl_hasStage l dC dI cI cJ cG cZ a fi fl ai al p1 _ hw) (cwV 1 hts (zw_goodV kw_411 kw_412 kw_413 kw_3 kw_414) rfl rfl rfl hd_Pl_hasStage ⟨Nat.le_of_ble_eq_true rfl, Nat.le_of_ble_eq_true rfl⟩) (zw_preV (ci := 3) (q0 := 4) hK hN hP rfl rfl) rfl rfl hl.1 rfl (lv_room (Nat.le_of_ble_eq_true rfl)) d_SS_carries_12 ⟨Nat.le_of_ble_eq_true rfl, Nat.le_of_ble_eq_true rfl⟩)) (fun r12 hw => ?_)
      refine lv_if_ne (tgt := 22) hx hb d_SS_carries_15 (by decide) (fun c15 => ?_) (fun c15 => ?_)
      · have hw := zw_ite_f c15 hw
        refine lv_aload_n hx hb d_SS_carries_22 rfl (lv_at hl 0 rfl) ?_
        refine lv_iload_n hx hb d_SS_carries_23 rfl (lv_at hl 2 rfl) ?_
        refine zw_cv (va_runV (As := [.int p1]) (rest := []) ⟨hx, hb, hml, hown, hts⟩ (c_SS_walkTo l dC dI cI cJ cG cZ a H.size fi fl ai al p1 _ hw) (cwV 1 hts (zw_goodV kw_469 kw_471 kw_s8 kw_1 kw_472) rfl rfl rfl hd_SS_walkTo ⟨Nat.le_of_ble_eq_true rfl, Nat.le_of_ble_eq_true rfl⟩) (zw_preVw (ci := 0) (q0 := 0) hK hN hP hD rfl rfl) rfl rfl hl.1 rfl (lv_room (Nat.le_of_ble_eq_true rfl)) d_SS_carries_24 ⟨Nat.le_of_ble_eq_true rfl, Nat.le_of_ble_eq_true rfl⟩) hD hS hA (fun fi_24 fl_24 ai_24 al_24 H locs hw hP hD hS => ?_)
        obtain ⟨rfl, hw⟩ := hw
        refine lv_aload_n hx hb d_SS_carries_27 rfl (lv_at hl 0 rfl) ?_
        refine va_get (D := (dC, dI)) (ci := 0) (v := .ref (a 40)) (C := R_SS) (T := T_SS) (N := 9) hx hb ht in_SS hown hK hP 0 rfl rfl 4 (by decide) (ht _ kw_246) (fun _ h9 => h9) rfl d_SS_carries_28 ?_
        refine va_get (D := (dC, dI)) (ci := 6) (v := .ref (a 42)) (C := R_Wa) (T := T_Wa) (N := 11) hx hb ht in_Wa hown hK hP 40 rfl rfl 4 (by decide) (ht _ kw_182) (fun _ h9 => h9) rfl d_SS_carries_31 ?_
        refine lv_iload_n hx hb d_SS_carries_34 rfl (lv_at hl 1 rfl) ?_
        obtain ⟨h35, hw⟩ := hw
        refine va_lald (f := al_24 42) hx hb hK hP 42 1 rfl rfl h35 d_SS_carries_35 ?_
        exact W.lret (v := (al_24 42 p0.toNatClampNeg)) hx hb hr (fun t ht hW => ⟨⟨(al_24 42 p0.toNatClampNeg), (fi_24, fl, ai_24, al_24), rfl, ⟨rfl, hw⟩, by rw [ht]; exact hP, va_K.moved hW.alike hK, hD⟩, hS.F ht⟩) hS.2.2 d_SS_carries_36
      · have hw := zw_ite_t c15 hw
        refine lv_ldc2 (v := (-1000000000000000000 : Int64)) hx hb hown (hts (.constantLong R_SS 128 (-1000000000000000000 : Int64)) (by decide +kernel)) d_SS_carries_18 ?_
        exact W.lret (v := (-1000000000000000000 : Int64)) hx hb hr (fun t ht hW => ⟨⟨(-1000000000000000000 : Int64), (fi, fl, ai, al), rfl, ⟨rfl, hw⟩, by rw [ht]; exact hP, va_K.moved hW.alike hK, hD⟩, hS.F ht⟩) hS.2.2 d_SS_carries_21
  rw [hH, hlo] at key
  exact key
def SS_towardsZero_w (p0 : Int64) (p1 : Int64) (K : Int64 → Prop) : Prop :=
  if (0 : Int64) ≤ p0 then (
    zw_nm (if (p0 - p1) < (0 : Int64) then (0 : Int64) else (p0 - p1)) (fun (v20 : Int64) =>
    K v20))
  else (
    zw_nm (if (p0 + p1) < (0 : Int64) then (p0 + p1) else (0 : Int64)) (fun (v10 : Int64) =>
    K v10))
theorem d_SS_towardsZero_0 : decode b_SS_towardsZero 0 = .ok (.lload_n 0, 1) := by decide +kernel
theorem d_SS_towardsZero_1 : decode b_SS_towardsZero 1 = .ok (.lconst 0, 1) := by decide +kernel
theorem d_SS_towardsZero_2 : decode b_SS_towardsZero 2 = .ok (.lcmp, 1) := by decide +kernel
theorem d_SS_towardsZero_3 : decode b_SS_towardsZero 3 = .ok (.ifCond .ge (13), 3) := by decide +kernel
theorem d_SS_towardsZero_6 : decode b_SS_towardsZero 6 = .ok (.lconst 0, 1) := by decide +kernel
theorem d_SS_towardsZero_7 : decode b_SS_towardsZero 7 = .ok (.lload_n 0, 1) := by decide +kernel
theorem d_SS_towardsZero_8 : decode b_SS_towardsZero 8 = .ok (.lload_n 2, 1) := by decide +kernel
theorem d_SS_towardsZero_9 : decode b_SS_towardsZero 9 = .ok (.ladd, 1) := by decide +kernel
theorem d_SS_towardsZero_10 : decode b_SS_towardsZero 10 = .ok (.invokestatic 271, 3) := by decide +kernel
theorem d_SS_towardsZero_13 : decode b_SS_towardsZero 13 = .ok (.goto (10), 3) := by decide +kernel
theorem d_SS_towardsZero_16 : decode b_SS_towardsZero 16 = .ok (.lconst 0, 1) := by decide +kernel
theorem d_SS_towardsZero_17 : decode b_SS_towardsZero 17 = .ok (.lload_n 0, 1) := by decide +kernel
theorem d_SS_towardsZero_18 : decode b_SS_towardsZero 18 = .ok (.lload_n 2, 1) := by decide +kernel
theorem d_SS_towardsZero_19 : decode b_SS_towardsZero 19 = .ok (.lsub, 1) := by decide +kernel
theorem d_SS_towardsZero_20 : decode b_SS_towardsZero 20 = .ok (.invokestatic 273, 3) := by decide +kernel
theorem d_SS_towardsZero_23 : decode b_SS_towardsZero 23 = .ok (.lreturn, 1) := by decide +kernel
set_option maxHeartbeats 4000000 in
set_option maxRecDepth 100000 in
theorem c_SS_towardsZero (l : Launch) (p0 : Int64) (p1 : Int64) (K : Int64 → Prop) (hw : SS_towardsZero_w p0 p1 K) : Met l y_SS_towardsZero ws_SS_towardsZero ({ frames := 1, cells := 0, slots := 0, locals := 23 }) (va_Pc [.long p0, .long p1] (fun _ => True)) (vp_Sl K) 0 0 (fun _ => False) := by
  refine Met.ofW (cc := b_SS_towardsZero) (maxL := 4) (ret := (Option.some FieldType.long)) (by decide) rfl ?_
  intro p e s m args below meth c s₁ B hml hv
  obtain ⟨rfl, -⟩ := hv
  have hx := B.exec
  have hb := B.bytes
  have hr := B.returns
  have hts := atoms_spec (ws := ws_SS_towardsZero) B.pre
  have ht : ∀ w ∈ zw_tbl, w.before _ s = true := fun w h => hts w (List.mem_cons_of_mem _ h)
  have hown : s.vm.findClass R_SS = some m.cls := findClass_of_methodNamed B.named
  have hlocks := B.notSynchronized
  have hl := lv_entry ([.long p0, .long p1] : List Value) (n := 4) (Nat.le_of_ble_eq_true rfl)
  rw [lg_entry_eq]
  generalize (lg_sl ([.long p0, .long p1] : List Value) ++ List.replicate (4 - (lg_sl ([.long p0, .long p1] : List Value)).length) Slot.unset).toArray = ls at hl ⊢
  have hl : lv_has ls 4 [(0, .long p0), (2, .long p1)] := hl
  unfold SS_towardsZero_w at hw
  refine lv_lload_n hx hb d_SS_towardsZero_0 rfl (lv_at hl 0 rfl) ?_
  refine lv_lconst (v := (0 : Int64)) hx hb d_SS_towardsZero_1 (by decide) ?_
  refine W.lcmp hx hb d_SS_towardsZero_2 ?_
  refine lv_if_ge (tgt := 16) hx hb d_SS_towardsZero_3 (by decide) (fun c3 => ?_) (fun c3 => ?_)
  · have hw := zw_ite_t (zw_lg_ge.mp c3) hw
    refine lv_lconst (v := (0 : Int64)) hx hb d_SS_towardsZero_16 (by decide) ?_
    refine lv_lload_n hx hb d_SS_towardsZero_17 rfl (lv_at hl 0 rfl) ?_
    refine lv_lload_n hx hb d_SS_towardsZero_18 rfl (lv_at hl 1 rfl) ?_
    refine lv_lsub hx hb d_SS_towardsZero_19 ?_
    refine va_mmax_long hx hb (hml.trans hl.1.symm) hown (ht _ kw_501) (ht _ kw_502) (ht _ kw_6) (ht _ kw_503) (Nat.le_of_ble_eq_true rfl) (Nat.le_of_ble_eq_true rfl) (Nat.le_of_ble_eq_true rfl) (Nat.le_of_ble_eq_true rfl) d_SS_towardsZero_20 ?_
    refine lv_topl (fun v20 ev20 => ?_)
    have hw := zw_nm_x ev20 hw
    exact W.lret (v := v20) hx hb hr (fun t ht hW => ⟨v20, rfl, hw, ht⟩) t_nil d_SS_towardsZero_23
  · have hw := zw_ite_f (mt zw_lg_ge.mpr c3) hw
    refine lv_lconst (v := (0 : Int64)) hx hb d_SS_towardsZero_6 (by decide) ?_
    refine lv_lload_n hx hb d_SS_towardsZero_7 rfl (lv_at hl 0 rfl) ?_
    refine lv_lload_n hx hb d_SS_towardsZero_8 rfl (lv_at hl 1 rfl) ?_
    refine lv_ladd hx hb d_SS_towardsZero_9 ?_
    refine va_mmin_long hx hb (hml.trans hl.1.symm) hown (ht _ kw_498) (ht _ kw_499) (ht _ kw_6) (ht _ kw_500) (Nat.le_of_ble_eq_true rfl) (Nat.le_of_ble_eq_true rfl) (Nat.le_of_ble_eq_true rfl) (Nat.le_of_ble_eq_true rfl) d_SS_towardsZero_10 ?_
    refine lv_topl (fun v10 ev10 => ?_)
    have hw := zw_nm_x ev10 hw
    refine lv_goto (tgt := 23) hx hb d_SS_towardsZero_13 (by decide) ?_
    exact W.lret (v := v10) hx hb hr (fun t ht hW => ⟨v10, rfl, hw, ht⟩) t_nil d_SS_towardsZero_23
def SS_spread_w (fi : Nat → Int32) (fl : Nat → Int64) (ai : Nat → Nat → Int32) (al : Nat → Nat → Int64) (p0 : Int64) (p1 : Int32) (K : (Nat → Nat → Int64) → Prop) : Prop :=
  zw_nm (0 : Int64) (fun (v1 : Int64) =>
  zw_nm (0 : Int32) (fun (v4 : Int32) =>
  zw_lp3 (fun L6 (x6_4 : Int64) (x6_6 : Int32) (al6 : Nat → Nat → Int64) =>
  if (fi 4) ≤ x6_6 then (
    K al6)
  else (
    vp_in x6_6 6 ∧ (
    zw_jn2 (fun (x67_4 : Int64) (al67 : Nat → Nat → Int64) =>
    zw_nm (x6_6 + (1 : Int32)) (fun (v67 : Int32) =>
    L6 x67_4 v67 al67)) (fun J67 =>
    if (ai 11 x6_6.toNatClampNeg) ≤ p1 then (
      J67 x6_4 al6)
    else (
      zw_nm (x6_4 + ((fi 0).toInt64 * (1000000000 : Int64))) (fun (v44 : Int64) =>
      vp_in x6_6 6 ∧ (
      SS_towardsZero_w p0 v44 (fun (r63 : Int64) =>
      vp_in (ai 10 x6_6.toNatClampNeg) 6 ∧ (zw_nm (va_up al6 17 (vp_updL (al6 17) (ai 10 x6_6.toNatClampNeg).toNatClampNeg r63)) (fun (al_66 : Nat → Nat → Int64) =>
      J67 v44 al_66)))))))))) v1 v4 al))
theorem d_SS_spread_0 : decode b_SS_spread 0 = .ok (.lconst 0, 1) := by decide +kernel
theorem d_SS_spread_1 : decode b_SS_spread 1 = .ok (.lstore 4, 2) := by decide +kernel
theorem d_SS_spread_3 : decode b_SS_spread 3 = .ok (.iconst 0, 1) := by decide +kernel
theorem d_SS_spread_4 : decode b_SS_spread 4 = .ok (.istore 6, 2) := by decide +kernel
theorem d_SS_spread_6 : decode b_SS_spread 6 = .ok (.iload 6, 2) := by decide +kernel
theorem d_SS_spread_8 : decode b_SS_spread 8 = .ok (.aload_n 0, 1) := by decide +kernel
theorem d_SS_spread_9 : decode b_SS_spread 9 = .ok (.getfield 19, 3) := by decide +kernel
theorem d_SS_spread_12 : decode b_SS_spread 12 = .ok (.getfield 228, 3) := by decide +kernel
theorem d_SS_spread_15 : decode b_SS_spread 15 = .ok (.if_icmp .ge (58), 3) := by decide +kernel
theorem d_SS_spread_18 : decode b_SS_spread 18 = .ok (.aload_n 0, 1) := by decide +kernel
theorem d_SS_spread_19 : decode b_SS_spread 19 = .ok (.getfield 19, 3) := by decide +kernel
theorem d_SS_spread_22 : decode b_SS_spread 22 = .ok (.getfield 264, 3) := by decide +kernel
theorem d_SS_spread_25 : decode b_SS_spread 25 = .ok (.iload 6, 2) := by decide +kernel
theorem d_SS_spread_27 : decode b_SS_spread 27 = .ok (.iaload, 1) := by decide +kernel
theorem d_SS_spread_28 : decode b_SS_spread 28 = .ok (.iload_n 3, 1) := by decide +kernel
theorem d_SS_spread_29 : decode b_SS_spread 29 = .ok (.if_icmp .le (38), 3) := by decide +kernel
theorem d_SS_spread_32 : decode b_SS_spread 32 = .ok (.lload 4, 2) := by decide +kernel
theorem d_SS_spread_34 : decode b_SS_spread 34 = .ok (.aload_n 0, 1) := by decide +kernel
theorem d_SS_spread_35 : decode b_SS_spread 35 = .ok (.getfield 37, 3) := by decide +kernel
theorem d_SS_spread_38 : decode b_SS_spread 38 = .ok (.i2l, 1) := by decide +kernel
theorem d_SS_spread_39 : decode b_SS_spread 39 = .ok (.ldc2_w 197, 3) := by decide +kernel
theorem d_SS_spread_42 : decode b_SS_spread 42 = .ok (.lmul, 1) := by decide +kernel
theorem d_SS_spread_43 : decode b_SS_spread 43 = .ok (.ladd, 1) := by decide +kernel
theorem d_SS_spread_44 : decode b_SS_spread 44 = .ok (.lstore 4, 2) := by decide +kernel
theorem d_SS_spread_46 : decode b_SS_spread 46 = .ok (.aload_n 0, 1) := by decide +kernel
theorem d_SS_spread_47 : decode b_SS_spread 47 = .ok (.getfield 30, 3) := by decide +kernel
theorem d_SS_spread_50 : decode b_SS_spread 50 = .ok (.aload_n 0, 1) := by decide +kernel
theorem d_SS_spread_51 : decode b_SS_spread 51 = .ok (.getfield 19, 3) := by decide +kernel
theorem d_SS_spread_54 : decode b_SS_spread 54 = .ok (.getfield 254, 3) := by decide +kernel
theorem d_SS_spread_57 : decode b_SS_spread 57 = .ok (.iload 6, 2) := by decide +kernel
theorem d_SS_spread_59 : decode b_SS_spread 59 = .ok (.iaload, 1) := by decide +kernel
theorem d_SS_spread_60 : decode b_SS_spread 60 = .ok (.lload_n 1, 1) := by decide +kernel
theorem d_SS_spread_61 : decode b_SS_spread 61 = .ok (.lload 4, 2) := by decide +kernel
theorem d_SS_spread_63 : decode b_SS_spread 63 = .ok (.invokestatic 267, 3) := by decide +kernel
theorem d_SS_spread_66 : decode b_SS_spread 66 = .ok (.lastore, 1) := by decide +kernel
theorem d_SS_spread_67 : decode b_SS_spread 67 = .ok (.iinc 6 (1), 3) := by decide +kernel
theorem d_SS_spread_70 : decode b_SS_spread 70 = .ok (.goto (-64), 3) := by decide +kernel
theorem d_SS_spread_73 : decode b_SS_spread 73 = .ok (.return_, 1) := by decide +kernel
set_option maxHeartbeats 4000000 in
set_option maxRecDepth 100000 in
theorem c_SS_spread (l : Launch) (dC : Nat → ClassId) (dI : Nat → Nat → Nat) (cI cJ cG cZ : ClassId) (a : Nat → Nat) (sz : Nat) (fi : Nat → Int32) (fl : Nat → Int64) (ai : Nat → Nat → Int32) (al : Nat → Nat → Int64) (p0 : Int64) (p1 : Int32) (K : (Nat → Nat → Int64) → Prop) (hw : SS_spread_w fi fl ai al p0 p1 K) : Met l y_SS_spread ws_SS_spread ({ frames := 2, cells := 0, slots := 0, locals := 46 }) (va_Pc [.ref (a 0), .long p0, .int p1] (zw_Bw (dC, dI) vwCl [(cI, .int), (cJ, .long), (cG, .array .int), (cZ, .boolean)] (cw cI cJ cG cZ a fi fl ai al) sz)) (va_Qv (fun (u : zw_Z) => (zw_k_alv fi fl ai K) u.1 u.2.1 u.2.2.1 u.2.2.2) (fun u t => zw_E (dC, dI) vwCl [(cI, .int), (cJ, .long), (cG, .array .int), (cZ, .boolean)] (va_A (cw cI cJ cG cZ a fi fl ai al) sz) (cw cI cJ cG cZ a u.1 u.2.1 u.2.2.1 u.2.2.2) t) (va_A (cw cI cJ cG cZ a fi fl ai al) sz)) 0 0 (va_A (cw cI cJ cG cZ a fi fl ai al) sz) := by
  refine Met.ofW (cc := b_SS_spread) (maxL := 7) (ret := (Option.none : Option FieldType)) (by decide) rfl ?_
  intro p e s m args below meth c s₁ B hml hv
  obtain ⟨rfl, hsz, hP, hK, hD0, hN⟩ := hv
  have hx := B.exec
  have hb := B.bytes
  have hr := B.returns
  have hts := atoms_spec (ws := ws_SS_spread) B.pre
  have ht : ∀ w ∈ zw_tbl, w.before _ s = true := fun w h => hts w (List.mem_cons_of_mem _ h)
  have hown : s.vm.findClass R_SS = some m.cls := findClass_of_methodNamed B.named
  have hlocks := B.notSynchronized
  subst hsz
  have hD := hD0.self (sz := s.heap.size)
  generalize hAe : va_A (cw cI cJ cG cZ a fi fl ai al) s.heap.size = A at hD ⊢
  have hA : ∀ q : Nat, s.heap.size ≤ q → A q := fun q h => by rw [← hAe]; exact Or.inr h
  have hS : va_S A s.heap s.heap [] := va_S.rf
  have hl := lv_entry ([.ref (a 0), .long p0, .int p1] : List Value) (n := 7) (Nat.le_of_ble_eq_true rfl)
  rw [lg_entry_eq]
  generalize (lg_sl ([.ref (a 0), .long p0, .int p1] : List Value) ++ List.replicate (7 - (lg_sl ([.ref (a 0), .long p0, .int p1] : List Value)).length) Slot.unset).toArray = ls at hl ⊢
  have hl : lv_has ls 7 [(0, .ref (a 0)), (1, .long p0), (3, .int p1)] := hl
  unfold SS_spread_w at hw
  obtain ⟨H, hH⟩ : ∃ H, H = s.heap := ⟨_, rfl⟩
  obtain ⟨locs, hlo⟩ : ∃ q : List Loc, q = [] := ⟨_, rfl⟩
  have hP : va_P (dC, dI) vwCl (cw cI cJ cG cZ a fi fl ai al) H := by rw [hH]; exact hP
  have hS : va_S A s.heap H locs := by rw [hH, hlo]; exact hS
  have key : W p l e (headSpec ws_SS_spread ({ frames := 2, cells := 0, slots := 0, locals := 46 })).room s m ([.ref (a 0), .long p0, .int p1] : List Value).toArray below meth c H locs 0 0 (MQ below (va_Qv (fun (u : zw_Z) => (zw_k_alv fi fl ai K) u.1 u.2.1 u.2.2.1 u.2.2.2) (fun u t => zw_E (dC, dI) vwCl [(cI, .int), (cJ, .long), (cG, .array .int), (cZ, .boolean)] A (cw cI cJ cG cZ a u.1 u.2.1 u.2.2.1 u.2.2.2) t) A) ([.ref (a 0), .long p0, .int p1] : List Value).toArray s 0 0 A) (F0 m 0 ls []) := by
    refine lv_lconst (v := (0 : Int64)) hx hb d_SS_spread_0 (by decide) ?_
    refine lv_topl (fun v1 ev1 => ?_)
    have hw := zw_nm_x ev1 hw
    refine lv_lstore (lv' := [(4, .long v1), (0, .ref (a 0)), (1, .long p0), (3, .int p1)]) hx hb d_SS_spread_1 hl (by decide) rfl (fun ls hl => ?_)
    refine lv_iconst (v := (0 : Int32)) hx hb d_SS_spread_3 (by decide) ?_
    refine lv_topi (fun v4 ev4 => ?_)
    have hw := zw_nm_x ev4 hw
    refine lv_istore (lv' := [(6, .int v4), (4, .long v1), (0, .ref (a 0)), (1, .long p0), (3, .int p1)]) hx hb d_SS_spread_4 hl (by decide) rfl (fun ls hl => ?_)
    refine (zw_lp3_i (P := fun (x6_4 : Int64) (x6_6 : Int32) (al6 : Nat → Nat → Int64) => ∀ (H : Heap) (locs : List Loc) (ls : Array Slot), va_P (dC, dI) vwCl (cw cI cJ cG cZ a fi fl ai al6) H → va_D A (cw cI cJ cG cZ a fi fl ai al6) → va_S A s.heap H locs → lv_has ls 7 [(0, .ref (a 0)), (1, .long p0), (3, .int p1), (4, .long x6_4), (6, .int x6_6)] → W p l e (headSpec ws_SS_spread ({ frames := 2, cells := 0, slots := 0, locals := 46 })).room s m ([.ref (a 0), .long p0, .int p1] : List Value).toArray below meth c H locs 0 0 (MQ below (va_Qv (fun (u : zw_Z) => (zw_k_alv fi fl ai K) u.1 u.2.1 u.2.2.1 u.2.2.2) (fun u t => zw_E (dC, dI) vwCl [(cI, .int), (cJ, .long), (cG, .array .int), (cZ, .boolean)] A (cw cI cJ cG cZ a u.1 u.2.1 u.2.2.1 u.2.2.2) t) A) ([.ref (a 0), .long p0, .int p1] : List Value).toArray s 0 0 A) (F0 m 6 ls [])) hw (fun L6 x6_4 x6_6 al6 ih6 hw H locs ls hP hD hS hl => ?_)) H locs ls hP hD hS (lv_sub hl [2, 3, 4, 1, 0] rfl)
    refine lv_iload hx hb d_SS_spread_6 (lv_at hl 4 rfl) ?_
    refine lv_aload_n hx hb d_SS_spread_8 rfl (lv_at hl 0 rfl) ?_
    refine va_get (D := (dC, dI)) (ci := 0) (v := .ref (a 4)) (C := R_SS) (T := T_SS) (N := 9) hx hb ht in_SS hown hK hP 0 rfl rfl 2 (by decide) (ht _ kw_244) (fun _ h9 => h9) rfl d_SS_spread_9 ?_
    refine va_get (D := (dC, dI)) (ci := 3) (v := .int (fi 4)) (C := R_Pl) (T := T_Pl) (N := 11) hx hb ht in_Pl hown hK hP 4 rfl rfl 9 (by decide) (ht _ kw_69) (fun _ h9 => h9) rfl d_SS_spread_12 ?_
    refine lv_icmp_ge (tgt := 73) hx hb d_SS_spread_15 (by decide) (fun c15 => ?_) (fun c15 => ?_)
    · have hw := zw_ite_t c15 hw
      exact W.vret hx hb hr (fun t ht hW => ⟨⟨(fi, fl, ai, al6), rfl, ⟨rfl, rfl, rfl, hw⟩, by rw [ht]; exact hP, va_K.moved hW.alike hK, hD⟩, hS.F ht⟩) hS.2.2 d_SS_spread_73
    · have hw := zw_ite_f c15 hw
      refine lv_aload_n hx hb d_SS_spread_18 rfl (lv_at hl 0 rfl) ?_
      refine va_get (D := (dC, dI)) (ci := 0) (v := .ref (a 4)) (C := R_SS) (T := T_SS) (N := 9) hx hb ht in_SS hown hK hP 0 rfl rfl 2 (by decide) (ht _ kw_244) (fun _ h9 => h9) rfl d_SS_spread_19 ?_
      refine va_get (D := (dC, dI)) (ci := 3) (v := .ref (a 11)) (C := R_Pl) (T := T_Pl) (N := 11) hx hb ht in_Pl hown hK hP 4 rfl rfl 6 (by decide) (ht _ kw_58) (fun _ h9 => h9) rfl d_SS_spread_22 ?_
      refine lv_iload hx hb d_SS_spread_25 (lv_at hl 4 rfl) ?_
      obtain ⟨h27, hw⟩ := hw
      refine va_iald (f := ai 11) hx hb hK hP 11 0 rfl rfl h27 d_SS_spread_27 ?_
      refine lv_iload_n hx hb d_SS_spread_28 rfl (lv_at hl 2 rfl) ?_
      refine zw_jn2_i (P := fun (x67_4 : Int64) (al67 : Nat → Nat → Int64) => ∀ (H : Heap) (locs : List Loc) (ls : Array Slot), va_P (dC, dI) vwCl (cw cI cJ cG cZ a fi fl ai al67) H → va_D A (cw cI cJ cG cZ a fi fl ai al67) → va_S A s.heap H locs → lv_has ls 7 [(0, .ref (a 0)), (1, .long p0), (3, .int p1), (4, .long x67_4), (6, .int x6_6)] → W p l e (headSpec ws_SS_spread ({ frames := 2, cells := 0, slots := 0, locals := 46 })).room s m ([.ref (a 0), .long p0, .int p1] : List Value).toArray below meth c H locs 0 0 (MQ below (va_Qv (fun (u : zw_Z) => (zw_k_alv fi fl ai K) u.1 u.2.1 u.2.2.1 u.2.2.2) (fun u t => zw_E (dC, dI) vwCl [(cI, .int), (cJ, .long), (cG, .array .int), (cZ, .boolean)] A (cw cI cJ cG cZ a u.1 u.2.1 u.2.2.1 u.2.2.2) t) A) ([.ref (a 0), .long p0, .int p1] : List Value).toArray s 0 0 A) (F0 m 67 ls [])) hw (fun x67_4 al67 hw H locs ls hP hD hS hl => ?_) (fun J67 hj67 hw => ?_)
      · obtain ⟨v67, ev67⟩ : ∃ y : Int32, y = x6_6 + (1 : Int32) := ⟨_, rfl⟩
        refine lv_iinc (v := v67) (lv' := [(6, .int v67), (0, .ref (a 0)), (1, .long p0), (3, .int p1), (4, .long x67_4)]) hx hb d_SS_spread_67 hl (k := 4) rfl (by rw [ev67]; rfl) (by decide) rfl (fun ls hl => ?_)
        have hw := zw_nm_x ev67 hw
        refine lv_goto (tgt := 6) hx hb d_SS_spread_70 (by decide) ?_
        exact (ih6 x67_4 v67 al67 hw) H locs ls hP hD hS (lv_sub hl [1, 2, 3, 4, 0] rfl)
      · refine lv_icmp_le (tgt := 67) hx hb d_SS_spread_29 (by decide) (fun c29 => ?_) (fun c29 => ?_)
        · have hw := zw_ite_t c29 hw
          exact (hj67 x6_4 al6 hw) H locs ls hP hD hS (lv_sub hl [0, 1, 2, 3, 4] rfl)
        · have hw := zw_ite_f c29 hw
          refine lv_lload hx hb d_SS_spread_32 (lv_at hl 3 rfl) ?_
          refine lv_aload_n hx hb d_SS_spread_34 rfl (lv_at hl 0 rfl) ?_
          refine va_get (D := (dC, dI)) (ci := 0) (v := .int (fi 0)) (C := R_SS) (T := T_SS) (N := 9) hx hb ht in_SS hown hK hP 0 rfl rfl 8 (by decide) (ht _ kw_250) (fun _ h9 => h9) rfl d_SS_spread_35 ?_
          refine lv_i2l hx hb d_SS_spread_38 rfl ?_
          refine lv_ldc2 (v := (1000000000 : Int64)) hx hb hown (hts (.constantLong R_SS 197 (1000000000 : Int64)) (by decide +kernel)) d_SS_spread_39 ?_
          refine lv_lmul hx hb d_SS_spread_42 ?_
          refine lv_ladd hx hb d_SS_spread_43 ?_
          refine lv_topl (fun v44 ev44 => ?_)
          have hw := zw_nm_x ev44 hw
          refine lv_lstore (lv' := [(4, .long v44), (0, .ref (a 0)), (1, .long p0), (3, .int p1), (6, .int x6_6)]) hx hb d_SS_spread_44 hl (by decide) rfl (fun ls hl => ?_)
          refine lv_aload_n hx hb d_SS_spread_46 rfl (lv_at hl 1 rfl) ?_
          refine va_get (D := (dC, dI)) (ci := 0) (v := .ref (a 17)) (C := R_SS) (T := T_SS) (N := 9) hx hb ht in_SS hown hK hP 0 rfl rfl 6 (by decide) (ht _ kw_248) (fun _ h9 => h9) rfl d_SS_spread_47 ?_
          refine lv_aload_n hx hb d_SS_spread_50 rfl (lv_at hl 1 rfl) ?_
          refine va_get (D := (dC, dI)) (ci := 0) (v := .ref (a 4)) (C := R_SS) (T := T_SS) (N := 9) hx hb ht in_SS hown hK hP 0 rfl rfl 2 (by decide) (ht _ kw_244) (fun _ h9 => h9) rfl d_SS_spread_51 ?_
          refine va_get (D := (dC, dI)) (ci := 3) (v := .ref (a 10)) (C := R_Pl) (T := T_Pl) (N := 11) hx hb ht in_Pl hown hK hP 4 rfl rfl 5 (by decide) (ht _ kw_55) (fun _ h9 => h9) rfl d_SS_spread_54 ?_
          refine lv_iload hx hb d_SS_spread_57 (lv_at hl 4 rfl) ?_
          obtain ⟨h59, hw⟩ := hw
          refine va_iald (f := ai 10) hx hb hK hP 10 0 rfl rfl h59 d_SS_spread_59 ?_
          refine lv_lload_n hx hb d_SS_spread_60 rfl (lv_at hl 2 rfl) ?_
          refine lv_lload hx hb d_SS_spread_61 (lv_at hl 0 rfl) ?_
          refine vp_callSl (va_Run.run (va_runS (As := [.long p0, .long v44]) (rest := [.int (ai 10 x6_6.toNatClampNeg), .ref (a 17)]) ⟨hx, hb, hml, hown, hts⟩ (c_SS_towardsZero l p0 v44 _ hw) (va_cwS 2 hts (zw_goodS kw_495 kw_496 kw_1 kw_497) rfl rfl rfl hd_SS_towardsZero.2 ⟨Nat.le_of_ble_eq_true rfl, Nat.le_of_ble_eq_true rfl⟩) zw_preS0 rfl rfl hl.1 rfl (lv_room (Nat.le_of_ble_eq_true rfl)) d_SS_spread_63 ⟨Nat.le_of_ble_eq_true rfl, Nat.le_of_ble_eq_true rfl⟩)) (fun r63 hw => ?_)
          obtain ⟨h66, hw⟩ := hw
          refine va_last (f := al6 17) hx hb hK hP hD hS 17 1 rfl rfl h66 d_SS_spread_66 (fun H locs hP hD hS => ?_)
          have hP := cwpal_17 hP
          have hD := cwdal_17 hD
          obtain ⟨al_66, eal_66⟩ : ∃ z, z = va_up al6 17 (vp_updL (al6 17) (ai 10 x6_6.toNatClampNeg).toNatClampNeg r63) := ⟨_, rfl⟩
          rw [← eal_66] at hP hD
          have hw := zw_nm_x eal_66 hw
          exact (hj67 v44 al_66 hw) H locs ls hP hD hS (lv_sub hl [1, 2, 3, 0, 4] rfl)
  rw [hH, hlo] at key
  exact key
def SS_survey_w (fi : Nat → Int32) (fl : Nat → Int64) (ai : Nat → Nat → Int32) (al : Nat → Nat → Int64) (p0 : Int32) (p1 : Int32) (p2 : Int32) (K : Int64 → (Nat → Int32) → (Nat → Nat → Int32) → (Nat → Nat → Int64) → Prop) : Prop :=
  SS_isThere_w fi fl ai al p0 p1 (fun (r3 : Int32) =>
  if r3 = 0 then (
    K (-1000000000000000000 : Int64) fi ai al)
  else (
    SS_within_w p2 (-1000000 : Int32) (1000000 : Int32) (fun (r14 : Int32) =>
    if r14 = 0 then (
      K (-1000000000000000000 : Int64) fi ai al)
    else (
      SS_levelThen_w fi fl ai al p0 p1 (fun (r33 : Int64) (fi_33 : Nat → Int32) (ai_33 : Nat → Nat → Int32) (al_33 : Nat → Nat → Int64) =>
      zw_nm ((p2.toInt64 * (1000000000 : Int64)) - r33) (fun (v37 : Int64) =>
      SS_spread_w fi_33 fl ai_33 al_33 v37 p1 (fun (al_43 : Nat → Nat → Int64) =>
      K v37 fi_33 ai_33 al_43)))))))
theorem d_SS_survey_0 : decode b_SS_survey 0 = .ok (.aload_n 0, 1) := by decide +kernel
theorem d_SS_survey_1 : decode b_SS_survey 1 = .ok (.iload_n 1, 1) := by decide +kernel
theorem d_SS_survey_2 : decode b_SS_survey 2 = .ok (.iload_n 2, 1) := by decide +kernel
theorem d_SS_survey_3 : decode b_SS_survey 3 = .ok (.invokevirtual 170, 3) := by decide +kernel
theorem d_SS_survey_6 : decode b_SS_survey 6 = .ok (.ifCond .eq (14), 3) := by decide +kernel
theorem d_SS_survey_9 : decode b_SS_survey 9 = .ok (.iload_n 3, 1) := by decide +kernel
theorem d_SS_survey_10 : decode b_SS_survey 10 = .ok (.ldc 195, 2) := by decide +kernel
theorem d_SS_survey_12 : decode b_SS_survey 12 = .ok (.ldc 196, 2) := by decide +kernel
theorem d_SS_survey_14 : decode b_SS_survey 14 = .ok (.invokestatic 81, 3) := by decide +kernel
theorem d_SS_survey_17 : decode b_SS_survey 17 = .ok (.ifCond .ne (7), 3) := by decide +kernel
theorem d_SS_survey_20 : decode b_SS_survey 20 = .ok (.ldc2_w 128, 3) := by decide +kernel
theorem d_SS_survey_23 : decode b_SS_survey 23 = .ok (.lreturn, 1) := by decide +kernel
theorem d_SS_survey_24 : decode b_SS_survey 24 = .ok (.iload_n 3, 1) := by decide +kernel
theorem d_SS_survey_25 : decode b_SS_survey 25 = .ok (.i2l, 1) := by decide +kernel
theorem d_SS_survey_26 : decode b_SS_survey 26 = .ok (.ldc2_w 197, 3) := by decide +kernel
theorem d_SS_survey_29 : decode b_SS_survey 29 = .ok (.lmul, 1) := by decide +kernel
theorem d_SS_survey_30 : decode b_SS_survey 30 = .ok (.aload_n 0, 1) := by decide +kernel
theorem d_SS_survey_31 : decode b_SS_survey 31 = .ok (.iload_n 1, 1) := by decide +kernel
theorem d_SS_survey_32 : decode b_SS_survey 32 = .ok (.iload_n 2, 1) := by decide +kernel
theorem d_SS_survey_33 : decode b_SS_survey 33 = .ok (.invokevirtual 173, 3) := by decide +kernel
theorem d_SS_survey_36 : decode b_SS_survey 36 = .ok (.lsub, 1) := by decide +kernel
theorem d_SS_survey_37 : decode b_SS_survey 37 = .ok (.lstore 4, 2) := by decide +kernel
theorem d_SS_survey_39 : decode b_SS_survey 39 = .ok (.aload_n 0, 1) := by decide +kernel
theorem d_SS_survey_40 : decode b_SS_survey 40 = .ok (.lload 4, 2) := by decide +kernel
theorem d_SS_survey_42 : decode b_SS_survey 42 = .ok (.iload_n 2, 1) := by decide +kernel
theorem d_SS_survey_43 : decode b_SS_survey 43 = .ok (.invokevirtual 199, 3) := by decide +kernel
theorem d_SS_survey_46 : decode b_SS_survey 46 = .ok (.lload 4, 2) := by decide +kernel
theorem d_SS_survey_48 : decode b_SS_survey 48 = .ok (.lreturn, 1) := by decide +kernel
set_option maxHeartbeats 4000000 in
set_option maxRecDepth 100000 in
theorem c_SS_survey (l : Launch) (dC : Nat → ClassId) (dI : Nat → Nat → Nat) (cI cJ cG cZ : ClassId) (a : Nat → Nat) (sz : Nat) (fi : Nat → Int32) (fl : Nat → Int64) (ai : Nat → Nat → Int32) (al : Nat → Nat → Int64) (p0 : Int32) (p1 : Int32) (p2 : Int32) (K : Int64 → (Nat → Int32) → (Nat → Nat → Int32) → (Nat → Nat → Int64) → Prop) (hw : SS_survey_w fi fl ai al p0 p1 p2 K) : Met l y_SS_survey ws_SS_survey ({ frames := 6, cells := 0, slots := 0, locals := 137 }) (va_Pc [.ref (a 0), .int p0, .int p1, .int p2] (zw_Bw (dC, dI) vwCl [(cI, .int), (cJ, .long), (cG, .array .int), (cZ, .boolean)] (cw cI cJ cG cZ a fi fl ai al) sz)) (va_Ql (fun r (u : zw_Z) => (zw_k_fi_ai_alr fl K) r u.1 u.2.1 u.2.2.1 u.2.2.2) (fun u t => zw_E (dC, dI) vwCl [(cI, .int), (cJ, .long), (cG, .array .int), (cZ, .boolean)] (va_A (cw cI cJ cG cZ a fi fl ai al) sz) (cw cI cJ cG cZ a u.1 u.2.1 u.2.2.1 u.2.2.2) t) (va_A (cw cI cJ cG cZ a fi fl ai al) sz)) 0 0 (va_A (cw cI cJ cG cZ a fi fl ai al) sz) := by
  refine Met.ofW (cc := b_SS_survey) (maxL := 6) (ret := (Option.some FieldType.long)) (by decide) rfl ?_
  intro p e s m args below meth c s₁ B hml hv
  obtain ⟨rfl, hsz, hP, hK, hD0, hN⟩ := hv
  have hx := B.exec
  have hb := B.bytes
  have hr := B.returns
  have hts := atoms_spec (ws := ws_SS_survey) B.pre
  have ht : ∀ w ∈ zw_tbl, w.before _ s = true := fun w h => hts w (List.mem_cons_of_mem _ h)
  have hown : s.vm.findClass R_SS = some m.cls := findClass_of_methodNamed B.named
  have hlocks := B.notSynchronized
  subst hsz
  have hD := hD0.self (sz := s.heap.size)
  generalize hAe : va_A (cw cI cJ cG cZ a fi fl ai al) s.heap.size = A at hD ⊢
  have hA : ∀ q : Nat, s.heap.size ≤ q → A q := fun q h => by rw [← hAe]; exact Or.inr h
  have hS : va_S A s.heap s.heap [] := va_S.rf
  have hl := lv_entry ([.ref (a 0), .int p0, .int p1, .int p2] : List Value) (n := 6) (Nat.le_of_ble_eq_true rfl)
  rw [lg_entry_eq]
  generalize (lg_sl ([.ref (a 0), .int p0, .int p1, .int p2] : List Value) ++ List.replicate (6 - (lg_sl ([.ref (a 0), .int p0, .int p1, .int p2] : List Value)).length) Slot.unset).toArray = ls at hl ⊢
  have hl : lv_has ls 6 [(0, .ref (a 0)), (1, .int p0), (2, .int p1), (3, .int p2)] := hl
  unfold SS_survey_w at hw
  obtain ⟨H, hH⟩ : ∃ H, H = s.heap := ⟨_, rfl⟩
  obtain ⟨locs, hlo⟩ : ∃ q : List Loc, q = [] := ⟨_, rfl⟩
  have hP : va_P (dC, dI) vwCl (cw cI cJ cG cZ a fi fl ai al) H := by rw [hH]; exact hP
  have hS : va_S A s.heap H locs := by rw [hH, hlo]; exact hS
  have key : W p l e (headSpec ws_SS_survey ({ frames := 6, cells := 0, slots := 0, locals := 137 })).room s m ([.ref (a 0), .int p0, .int p1, .int p2] : List Value).toArray below meth c H locs 0 0 (MQ below (va_Ql (fun r (u : zw_Z) => (zw_k_fi_ai_alr fl K) r u.1 u.2.1 u.2.2.1 u.2.2.2) (fun u t => zw_E (dC, dI) vwCl [(cI, .int), (cJ, .long), (cG, .array .int), (cZ, .boolean)] A (cw cI cJ cG cZ a u.1 u.2.1 u.2.2.1 u.2.2.2) t) A) ([.ref (a 0), .int p0, .int p1, .int p2] : List Value).toArray s 0 0 A) (F0 m 0 ls []) := by
    refine lv_aload_n hx hb d_SS_survey_0 rfl (lv_at hl 0 rfl) ?_
    refine lv_iload_n hx hb d_SS_survey_1 rfl (lv_at hl 1 rfl) ?_
    refine lv_iload_n hx hb d_SS_survey_2 rfl (lv_at hl 2 rfl) ?_
    refine vp_callSi (va_Run.run (va_runV (As := [.int p0, .int p1]) (rest := []) ⟨hx, hb, hml, hown, hts⟩ (c_SS_isThere l dC dI cI cJ cG cZ a fi fl ai al p0 p1 _ hw) (cwV 2 hts (zw_goodV kw_407 kw_409 kw_s1 kw_1 kw_410) rfl rfl rfl hd_SS_isThere ⟨Nat.le_of_ble_eq_true rfl, Nat.le_of_ble_eq_true rfl⟩) (zw_preV (ci := 0) (q0 := 0) hK hN hP rfl rfl) rfl rfl hl.1 rfl (lv_room (Nat.le_of_ble_eq_true rfl)) d_SS_survey_3 ⟨Nat.le_of_ble_eq_true rfl, Nat.le_of_ble_eq_true rfl⟩)) (fun r3 hw => ?_)
    refine lv_if_eq (tgt := 20) hx hb d_SS_survey_6 (by decide) (fun c6 => ?_) (fun c6 => ?_)
    · have hw := zw_ite_t c6 hw
      refine lv_ldc2 (v := (-1000000000000000000 : Int64)) hx hb hown (hts (.constantLong R_SS 128 (-1000000000000000000 : Int64)) (by decide +kernel)) d_SS_survey_20 ?_
      exact W.lret (v := (-1000000000000000000 : Int64)) hx hb hr (fun t ht hW => ⟨⟨(-1000000000000000000 : Int64), (fi, fl, ai, al), rfl, ⟨rfl, hw⟩, by rw [ht]; exact hP, va_K.moved hW.alike hK, hD⟩, hS.F ht⟩) hS.2.2 d_SS_survey_23
    · have hw := zw_ite_f c6 hw
      refine lv_iload_n hx hb d_SS_survey_9 rfl (lv_at hl 3 rfl) ?_
      refine lv_ldc (v := (-1000000 : Int32)) hx hb hown (hts (.constant R_SS 195 (-1000000 : Int32)) (by decide +kernel)) d_SS_survey_10 ?_
      refine lv_ldc (v := (1000000 : Int32)) hx hb hown (hts (.constant R_SS 196 (1000000 : Int32)) (by decide +kernel)) d_SS_survey_12 ?_
      refine vp_callSi (va_Run.run (va_runS (As := [.int p2, .int (-1000000 : Int32), .int (1000000 : Int32)]) (rest := []) ⟨hx, hb, hml, hown, hts⟩ (c_SS_within l p2 (-1000000 : Int32) (1000000 : Int32) _ hw) (va_cwS 3 hts (zw_goodS kw_281 kw_279 kw_1 kw_280) rfl rfl rfl hd_SS_within.2 ⟨Nat.le_of_ble_eq_true rfl, Nat.le_of_ble_eq_true rfl⟩) zw_preS0 rfl rfl hl.1 rfl (lv_room (Nat.le_of_ble_eq_true rfl)) d_SS_survey_14 ⟨Nat.le_of_ble_eq_true rfl, Nat.le_of_ble_eq_true rfl⟩)) (fun r14 hw => ?_)
      refine lv_if_ne (tgt := 24) hx hb d_SS_survey_17 (by decide) (fun c17 => ?_) (fun c17 => ?_)
      · have hw := zw_ite_f c17 hw
        refine lv_iload_n hx hb d_SS_survey_24 rfl (lv_at hl 3 rfl) ?_
        refine lv_i2l hx hb d_SS_survey_25 rfl ?_
        refine lv_ldc2 (v := (1000000000 : Int64)) hx hb hown (hts (.constantLong R_SS 197 (1000000000 : Int64)) (by decide +kernel)) d_SS_survey_26 ?_
        refine lv_lmul hx hb d_SS_survey_29 ?_
        refine lv_aload_n hx hb d_SS_survey_30 rfl (lv_at hl 0 rfl) ?_
        refine lv_iload_n hx hb d_SS_survey_31 rfl (lv_at hl 1 rfl) ?_
        refine lv_iload_n hx hb d_SS_survey_32 rfl (lv_at hl 2 rfl) ?_
        refine zw_cl (va_runV (As := [.int p0, .int p1]) (rest := [.long (p2.toInt64 * (1000000000 : Int64))]) ⟨hx, hb, hml, hown, hts⟩ (c_SS_levelThen l dC dI cI cJ cG cZ a H.size fi fl ai al p0 p1 _ hw) (cwV 2 hts (zw_goodV kw_419 kw_421 kw_s2 kw_1 kw_422) rfl rfl rfl hd_SS_levelThen ⟨Nat.le_of_ble_eq_true rfl, Nat.le_of_ble_eq_true rfl⟩) (zw_preVw (ci := 0) (q0 := 0) hK hN hP hD rfl rfl) rfl rfl hl.1 rfl (lv_room (Nat.le_of_ble_eq_true rfl)) d_SS_survey_33 ⟨Nat.le_of_ble_eq_true rfl, Nat.le_of_ble_eq_true rfl⟩) hD hS hA (fun r33 fi_33 fl_33 ai_33 al_33 H locs hw hP hD hS => ?_)
        obtain ⟨rfl, hw⟩ := hw
        refine lv_lsub hx hb d_SS_survey_36 ?_
        refine lv_topl (fun v37 ev37 => ?_)
        have hw := zw_nm_x ev37 hw
        refine lv_lstore (lv' := [(4, .long v37), (0, .ref (a 0)), (1, .int p0), (2, .int p1), (3, .int p2)]) hx hb d_SS_survey_37 hl (by decide) rfl (fun ls hl => ?_)
        refine lv_aload_n hx hb d_SS_survey_39 rfl (lv_at hl 1 rfl) ?_
        refine lv_lload hx hb d_SS_survey_40 (lv_at hl 0 rfl) ?_
        refine lv_iload_n hx hb d_SS_survey_42 rfl (lv_at hl 3 rfl) ?_
        refine zw_cv (va_runV (As := [.long v37, .int p1]) (rest := []) ⟨hx, hb, hml, hown, hts⟩ (c_SS_spread l dC dI cI cJ cG cZ a H.size fi_33 fl ai_33 al_33 v37 p1 _ hw) (cwV 2 hts (zw_goodV kw_491 kw_493 kw_s10 kw_1 kw_494) rfl rfl rfl hd_SS_spread ⟨Nat.le_of_ble_eq_true rfl, Nat.le_of_ble_eq_true rfl⟩) (zw_preVw (ci := 0) (q0 := 0) hK hN hP hD rfl rfl) rfl rfl hl.1 rfl (lv_room (Nat.le_of_ble_eq_true rfl)) d_SS_survey_43 ⟨Nat.le_of_ble_eq_true rfl, Nat.le_of_ble_eq_true rfl⟩) hD hS hA (fun fi_43 fl_43 ai_43 al_43 H locs hw hP hD hS => ?_)
        obtain ⟨rfl, rfl, rfl, hw⟩ := hw
        refine lv_lload hx hb d_SS_survey_46 (lv_at hl 0 rfl) ?_
        exact W.lret (v := v37) hx hb hr (fun t ht hW => ⟨⟨v37, (fi_33, fl, ai_33, al_43), rfl, ⟨rfl, hw⟩, by rw [ht]; exact hP, va_K.moved hW.alike hK, hD⟩, hS.F ht⟩) hS.2.2 d_SS_survey_48
      · have hw := zw_ite_t c17 hw
        refine lv_ldc2 (v := (-1000000000000000000 : Int64)) hx hb hown (hts (.constantLong R_SS 128 (-1000000000000000000 : Int64)) (by decide +kernel)) d_SS_survey_20 ?_
        exact W.lret (v := (-1000000000000000000 : Int64)) hx hb hr (fun t ht hW => ⟨⟨(-1000000000000000000 : Int64), (fi, fl, ai, al), rfl, ⟨rfl, hw⟩, by rw [ht]; exact hP, va_K.moved hW.alike hK, hD⟩, hS.F ht⟩) hS.2.2 d_SS_survey_23
  rw [hH, hlo] at key
  exact key
def SS_most_w (fi : Nat → Int32) (fl : Nat → Int64) (ai : Nat → Nat → Int32) (al : Nat → Nat → Int64) (p0 : Int32) (K : Int32 → (Nat → Int32) → Prop) : Prop :=
  SS_within_w p0 (0 : Int32) (1000 : Int32) (fun (r5 : Int32) =>
  if r5 = 0 then (
    K (0 : Int32) fi)
  else (
    zw_nm (va_up fi 0 p0) (fun (fi_15 : Nat → Int32) =>
    K (1 : Int32) fi_15)))
theorem d_SS_most_0 : decode b_SS_most 0 = .ok (.iload_n 1, 1) := by decide +kernel
theorem d_SS_most_1 : decode b_SS_most 1 = .ok (.iconst 0, 1) := by decide +kernel
theorem d_SS_most_2 : decode b_SS_most 2 = .ok (.sipush (1000), 3) := by decide +kernel
theorem d_SS_most_5 : decode b_SS_most 5 = .ok (.invokestatic 81, 3) := by decide +kernel
theorem d_SS_most_8 : decode b_SS_most 8 = .ok (.ifCond .ne (5), 3) := by decide +kernel
theorem d_SS_most_11 : decode b_SS_most 11 = .ok (.iconst 0, 1) := by decide +kernel
theorem d_SS_most_12 : decode b_SS_most 12 = .ok (.ireturn, 1) := by decide +kernel
theorem d_SS_most_13 : decode b_SS_most 13 = .ok (.aload_n 0, 1) := by decide +kernel
theorem d_SS_most_14 : decode b_SS_most 14 = .ok (.iload_n 1, 1) := by decide +kernel
theorem d_SS_most_15 : decode b_SS_most 15 = .ok (.putfield 37, 3) := by decide +kernel
theorem d_SS_most_18 : decode b_SS_most 18 = .ok (.iconst 1, 1) := by decide +kernel
theorem d_SS_most_19 : decode b_SS_most 19 = .ok (.ireturn, 1) := by decide +kernel
set_option maxHeartbeats 4000000 in
set_option maxRecDepth 100000 in
theorem c_SS_most (l : Launch) (dC : Nat → ClassId) (dI : Nat → Nat → Nat) (cI cJ cG cZ : ClassId) (a : Nat → Nat) (sz : Nat) (fi : Nat → Int32) (fl : Nat → Int64) (ai : Nat → Nat → Int32) (al : Nat → Nat → Int64) (p0 : Int32) (K : Int32 → (Nat → Int32) → Prop) (hw : SS_most_w fi fl ai al p0 K) : Met l y_SS_most ws_SS_most ({ frames := 1, cells := 0, slots := 0, locals := 22 }) (va_Pc [.ref (a 0), .int p0] (zw_Bw (dC, dI) vwCl [(cI, .int), (cJ, .long), (cG, .array .int), (cZ, .boolean)] (cw cI cJ cG cZ a fi fl ai al) sz)) (va_Qi (fun r (u : zw_Z) => (zw_k_fir fl ai al K) r u.1 u.2.1 u.2.2.1 u.2.2.2) (fun u t => zw_E (dC, dI) vwCl [(cI, .int), (cJ, .long), (cG, .array .int), (cZ, .boolean)] (va_A (cw cI cJ cG cZ a fi fl ai al) sz) (cw cI cJ cG cZ a u.1 u.2.1 u.2.2.1 u.2.2.2) t) (va_A (cw cI cJ cG cZ a fi fl ai al) sz)) 0 0 (va_A (cw cI cJ cG cZ a fi fl ai al) sz) := by
  refine Met.ofW (cc := b_SS_most) (maxL := 2) (ret := (Option.some FieldType.boolean)) (by decide) rfl ?_
  intro p e s m args below meth c s₁ B hml hv
  obtain ⟨rfl, hsz, hP, hK, hD0, hN⟩ := hv
  have hx := B.exec
  have hb := B.bytes
  have hr := B.returns
  have hts := atoms_spec (ws := ws_SS_most) B.pre
  have ht : ∀ w ∈ zw_tbl, w.before _ s = true := fun w h => hts w (List.mem_cons_of_mem _ h)
  have hown : s.vm.findClass R_SS = some m.cls := findClass_of_methodNamed B.named
  have hlocks := B.notSynchronized
  subst hsz
  have hD := hD0.self (sz := s.heap.size)
  generalize hAe : va_A (cw cI cJ cG cZ a fi fl ai al) s.heap.size = A at hD ⊢
  have hA : ∀ q : Nat, s.heap.size ≤ q → A q := fun q h => by rw [← hAe]; exact Or.inr h
  have hS : va_S A s.heap s.heap [] := va_S.rf
  have hl := lv_entry ([.ref (a 0), .int p0] : List Value) (n := 2) (Nat.le_of_ble_eq_true rfl)
  rw [lg_entry_eq]
  generalize (lg_sl ([.ref (a 0), .int p0] : List Value) ++ List.replicate (2 - (lg_sl ([.ref (a 0), .int p0] : List Value)).length) Slot.unset).toArray = ls at hl ⊢
  have hl : lv_has ls 2 [(0, .ref (a 0)), (1, .int p0)] := hl
  unfold SS_most_w at hw
  obtain ⟨H, hH⟩ : ∃ H, H = s.heap := ⟨_, rfl⟩
  obtain ⟨locs, hlo⟩ : ∃ q : List Loc, q = [] := ⟨_, rfl⟩
  have hP : va_P (dC, dI) vwCl (cw cI cJ cG cZ a fi fl ai al) H := by rw [hH]; exact hP
  have hS : va_S A s.heap H locs := by rw [hH, hlo]; exact hS
  have key : W p l e (headSpec ws_SS_most ({ frames := 1, cells := 0, slots := 0, locals := 22 })).room s m ([.ref (a 0), .int p0] : List Value).toArray below meth c H locs 0 0 (MQ below (va_Qi (fun r (u : zw_Z) => (zw_k_fir fl ai al K) r u.1 u.2.1 u.2.2.1 u.2.2.2) (fun u t => zw_E (dC, dI) vwCl [(cI, .int), (cJ, .long), (cG, .array .int), (cZ, .boolean)] A (cw cI cJ cG cZ a u.1 u.2.1 u.2.2.1 u.2.2.2) t) A) ([.ref (a 0), .int p0] : List Value).toArray s 0 0 A) (F0 m 0 ls []) := by
    refine lv_iload_n hx hb d_SS_most_0 rfl (lv_at hl 1 rfl) ?_
    refine lv_iconst (v := (0 : Int32)) hx hb d_SS_most_1 (by decide) ?_
    refine lv_sipush (v := (1000 : Int32)) hx hb d_SS_most_2 (by decide) ?_
    refine vp_callSi (va_Run.run (va_runS (As := [.int p0, .int (0 : Int32), .int (1000 : Int32)]) (rest := []) ⟨hx, hb, hml, hown, hts⟩ (c_SS_within l p0 (0 : Int32) (1000 : Int32) _ hw) (va_cwS 3 hts (zw_goodS kw_281 kw_279 kw_1 kw_280) rfl rfl rfl hd_SS_within.2 ⟨Nat.le_of_ble_eq_true rfl, Nat.le_of_ble_eq_true rfl⟩) zw_preS0 rfl rfl hl.1 rfl (lv_room (Nat.le_of_ble_eq_true rfl)) d_SS_most_5 ⟨Nat.le_of_ble_eq_true rfl, Nat.le_of_ble_eq_true rfl⟩)) (fun r5 hw => ?_)
    refine lv_if_ne (tgt := 13) hx hb d_SS_most_8 (by decide) (fun c8 => ?_) (fun c8 => ?_)
    · have hw := zw_ite_f c8 hw
      refine lv_aload_n hx hb d_SS_most_13 rfl (lv_at hl 0 rfl) ?_
      refine lv_iload_n hx hb d_SS_most_14 rfl (lv_at hl 1 rfl) ?_
      refine va_put (D := (dC, dI)) (ci := 0) (v := .int p0) (ty := .int) (C := R_SS) (T := T_SS) (N := 9) hx hb ht in_SS t_SS t_SS_ok n_SS hown hK hP hD hS 0 rfl rfl 8 (by decide) (ht _ kw_250) (fun _ h9 => h9) rfl (by decide +kernel) rfl rfl (Nat.le_of_ble_eq_true rfl) d_SS_most_15 (fun H locs hP hD hS => ?_)
      have hP := cwpfi_0 hP
      have hD := cwdfi_0 hD
      obtain ⟨fi_15, efi_15⟩ : ∃ z, z = va_up fi 0 p0 := ⟨_, rfl⟩
      rw [← efi_15] at hP hD
      have hw := zw_nm_x efi_15 hw
      refine lv_iconst (v := (1 : Int32)) hx hb d_SS_most_18 (by decide) ?_
      exact W.zret (v := (1 : Int32)) (ty := .boolean) hx hb hr rfl (fun t ht hW => ⟨⟨(1 : Int32), (fi_15, fl, ai, al), rfl, ⟨rfl, rfl, rfl, hw⟩, by rw [ht]; exact hP, va_K.moved hW.alike hK, hD⟩, hS.F ht⟩) hS.2.2 d_SS_most_19
    · have hw := zw_ite_t c8 hw
      refine lv_iconst (v := (0 : Int32)) hx hb d_SS_most_11 (by decide) ?_
      exact W.zret (v := (0 : Int32)) (ty := .boolean) hx hb hr rfl (fun t ht hW => ⟨⟨(0 : Int32), (fi, fl, ai, al), rfl, ⟨rfl, rfl, rfl, hw⟩, by rw [ht]; exact hP, va_K.moved hW.alike hK, hD⟩, hS.F ht⟩) hS.2.2 d_SS_most_12
  rw [hH, hlo] at key
  exact key
