def SS_creep_w (fi : Nat → Int32) (fl : Nat → Int64) (ai : Nat → Nat → Int32) (al : Nat → Nat → Int64) (p0 : Int32) (p1 : Int32) (K : Int32 → (Nat → Int32) → (Nat → Nat → Int32) → Prop) : Prop :=
  Cr_tell_w fi fl ai al p0 p1 (fun (r6 : Int32) (fi_6 : Nat → Int32) (ai_6 : Nat → Nat → Int32) =>
  zw_bool r6 ∧ (K r6 fi_6 ai_6))
theorem d_SS_creep_0 : decode b_SS_creep 0 = .ok (.aload_n 0, 1) := by decide +kernel
theorem d_SS_creep_1 : decode b_SS_creep 1 = .ok (.getfield 10, 3) := by decide +kernel
theorem d_SS_creep_4 : decode b_SS_creep 4 = .ok (.iload_n 1, 1) := by decide +kernel
theorem d_SS_creep_5 : decode b_SS_creep 5 = .ok (.iload_n 2, 1) := by decide +kernel
theorem d_SS_creep_6 : decode b_SS_creep 6 = .ok (.invokevirtual 110, 3) := by decide +kernel
theorem d_SS_creep_9 : decode b_SS_creep 9 = .ok (.ireturn, 1) := by decide +kernel
set_option maxHeartbeats 4000000 in
set_option maxRecDepth 100000 in
theorem c_SS_creep (l : Launch) (dC : Nat → ClassId) (dI : Nat → Nat → Nat) (cI cJ cG cZ : ClassId) (a : Nat → Nat) (sz : Nat) (fi : Nat → Int32) (fl : Nat → Int64) (ai : Nat → Nat → Int32) (al : Nat → Nat → Int64) (p0 : Int32) (p1 : Int32) (K : Int32 → (Nat → Int32) → (Nat → Nat → Int32) → Prop) (hw : SS_creep_w fi fl ai al p0 p1 K) : Met l y_SS_creep ws_SS_creep ({ frames := 2, cells := 0, slots := 0, locals := 44 }) (va_Pc [.ref (a 0), .int p0, .int p1] (zw_Bw (dC, dI) vwCl [(cI, .int), (cJ, .long), (cG, .array .int), (cZ, .boolean)] (cw cI cJ cG cZ a fi fl ai al) sz)) (va_Qi (fun r (u : zw_Z) => (zw_k_fi_air fl al K) r u.1 u.2.1 u.2.2.1 u.2.2.2) (fun u t => zw_E (dC, dI) vwCl [(cI, .int), (cJ, .long), (cG, .array .int), (cZ, .boolean)] (va_A (cw cI cJ cG cZ a fi fl ai al) sz) (cw cI cJ cG cZ a u.1 u.2.1 u.2.2.1 u.2.2.2) t) (va_A (cw cI cJ cG cZ a fi fl ai al) sz)) 0 0 (va_A (cw cI cJ cG cZ a fi fl ai al) sz) := by
  refine Met.ofW (cc := b_SS_creep) (maxL := 3) (ret := (Option.some FieldType.boolean)) (by decide) rfl ?_
  intro p e s m args below meth c s₁ B hml hv
  obtain ⟨rfl, hsz, hP, hK, hD0, hN⟩ := hv
  have hx := B.exec
  have hb := B.bytes
  have hr := B.returns
  have hts := atoms_spec (ws := ws_SS_creep) B.pre
  have ht : ∀ w ∈ zw_tbl, w.before _ s = true := fun w h => hts w (List.mem_cons_of_mem _ h)
  have hown : s.vm.findClass R_SS = some m.cls := findClass_of_methodNamed B.named
  have hlocks := B.notSynchronized
  subst hsz
  have hD := hD0.self (sz := s.heap.size)
  generalize hAe : va_A (cw cI cJ cG cZ a fi fl ai al) s.heap.size = A at hD ⊢
  have hA : ∀ q : Nat, s.heap.size ≤ q → A q := fun q h => by rw [← hAe]; exact Or.inr h
  have hS : va_S A s.heap s.heap [] := va_S.rf
  have hl := lv_entry ([.ref (a 0), .int p0, .int p1] : List Value) (n := 3) (Nat.le_of_ble_eq_true rfl)
  rw [lg_entry_eq]
  generalize (lg_sl ([.ref (a 0), .int p0, .int p1] : List Value) ++ List.replicate (3 - (lg_sl ([.ref (a 0), .int p0, .int p1] : List Value)).length) Slot.unset).toArray = ls at hl ⊢
  have hl : lv_has ls 3 [(0, .ref (a 0)), (1, .int p0), (2, .int p1)] := hl
  unfold SS_creep_w at hw
  obtain ⟨H, hH⟩ : ∃ H, H = s.heap := ⟨_, rfl⟩
  obtain ⟨locs, hlo⟩ : ∃ q : List Loc, q = [] := ⟨_, rfl⟩
  have hP : va_P (dC, dI) vwCl (cw cI cJ cG cZ a fi fl ai al) H := by rw [hH]; exact hP
  have hS : va_S A s.heap H locs := by rw [hH, hlo]; exact hS
  have key : W p l e (headSpec ws_SS_creep ({ frames := 2, cells := 0, slots := 0, locals := 44 })).room s m ([.ref (a 0), .int p0, .int p1] : List Value).toArray below meth c H locs 0 0 (MQ below (va_Qi (fun r (u : zw_Z) => (zw_k_fi_air fl al K) r u.1 u.2.1 u.2.2.1 u.2.2.2) (fun u t => zw_E (dC, dI) vwCl [(cI, .int), (cJ, .long), (cG, .array .int), (cZ, .boolean)] A (cw cI cJ cG cZ a u.1 u.2.1 u.2.2.1 u.2.2.2) t) A) ([.ref (a 0), .int p0, .int p1] : List Value).toArray s 0 0 A) (F0 m 0 ls []) := by
    refine lv_aload_n hx hb d_SS_creep_0 rfl (lv_at hl 0 rfl) ?_
    refine va_get (D := (dC, dI)) (ci := 0) (v := .ref (a 1)) (C := R_SS) (T := T_SS) (N := 9) hx hb ht in_SS hown hK hP 0 rfl rfl 1 (by decide) (ht _ kw_243) (fun _ h9 => h9) rfl d_SS_creep_1 ?_
    refine lv_iload_n hx hb d_SS_creep_4 rfl (lv_at hl 1 rfl) ?_
    refine lv_iload_n hx hb d_SS_creep_5 rfl (lv_at hl 2 rfl) ?_
    refine zw_ci (va_runV (As := [.int p0, .int p1]) (rest := []) ⟨hx, hb, hml, hown, hts⟩ (c_Cr_tell l dC dI cI cJ cG cZ a H.size fi fl ai al p0 p1 _ hw) (cwV 2 hts (zw_goodV kw_306 kw_307 kw_308 kw_2 kw_309) rfl rfl rfl hd_Cr_tell ⟨Nat.le_of_ble_eq_true rfl, Nat.le_of_ble_eq_true rfl⟩) (zw_preVw (ci := 1) (q0 := 1) hK hN hP hD rfl rfl) rfl rfl hl.1 rfl (lv_room (Nat.le_of_ble_eq_true rfl)) d_SS_creep_6 ⟨Nat.le_of_ble_eq_true rfl, Nat.le_of_ble_eq_true rfl⟩) hD hS hA (fun r6 fi_6 fl_6 ai_6 al_6 H locs hw hP hD hS => ?_)
    obtain ⟨rfl, rfl, hw⟩ := hw
    obtain ⟨hz, hw⟩ := hw
    exact W.zret (v := r6) (ty := .boolean) hx hb hr (zw_bool_n hz) (fun t ht hW => ⟨⟨r6, (fi_6, fl, ai_6, al), rfl, ⟨rfl, rfl, hw⟩, by rw [ht]; exact hP, va_K.moved hW.alike hK, hD⟩, hS.F ht⟩) hS.2.2 d_SS_creep_9
  rw [hH, hlo] at key
  exact key
def SS_hasBit_w (p0 : Int32) (p1 : Int32) (K : Int32 → Prop) : Prop :=
  if ((p0 >>> (p1 &&& 31)) &&& (1 : Int32)) = (1 : Int32) then (
    K (1 : Int32))
  else (
    K (0 : Int32))
theorem d_SS_hasBit_0 : decode b_SS_hasBit 0 = .ok (.iload_n 0, 1) := by decide +kernel
theorem d_SS_hasBit_1 : decode b_SS_hasBit 1 = .ok (.iload_n 1, 1) := by decide +kernel
theorem d_SS_hasBit_2 : decode b_SS_hasBit 2 = .ok (.ishr, 1) := by decide +kernel
theorem d_SS_hasBit_3 : decode b_SS_hasBit 3 = .ok (.iconst 1, 1) := by decide +kernel
theorem d_SS_hasBit_4 : decode b_SS_hasBit 4 = .ok (.iand, 1) := by decide +kernel
theorem d_SS_hasBit_5 : decode b_SS_hasBit 5 = .ok (.iconst 1, 1) := by decide +kernel
theorem d_SS_hasBit_6 : decode b_SS_hasBit 6 = .ok (.if_icmp .ne (7), 3) := by decide +kernel
theorem d_SS_hasBit_9 : decode b_SS_hasBit 9 = .ok (.iconst 1, 1) := by decide +kernel
theorem d_SS_hasBit_10 : decode b_SS_hasBit 10 = .ok (.goto (4), 3) := by decide +kernel
theorem d_SS_hasBit_13 : decode b_SS_hasBit 13 = .ok (.iconst 0, 1) := by decide +kernel
theorem d_SS_hasBit_14 : decode b_SS_hasBit 14 = .ok (.ireturn, 1) := by decide +kernel
set_option maxHeartbeats 4000000 in
set_option maxRecDepth 100000 in
theorem c_SS_hasBit (l : Launch) (p0 : Int32) (p1 : Int32) (K : Int32 → Prop) (hw : SS_hasBit_w p0 p1 K) : Met l y_SS_hasBit ws_SS_hasBit ({ frames := 0, cells := 0, slots := 0, locals := 0 }) (va_Pc [.int p0, .int p1] (fun _ => True)) (vp_Si K) 0 0 (fun _ => False) := by
  refine Met.ofW (cc := b_SS_hasBit) (maxL := 2) (ret := (Option.some FieldType.boolean)) (by decide) rfl ?_
  intro p e s m args below meth c s₁ B hml hv
  obtain ⟨rfl, -⟩ := hv
  have hx := B.exec
  have hb := B.bytes
  have hr := B.returns
  have hts := atoms_spec (ws := ws_SS_hasBit) B.pre
  have ht : ∀ w ∈ zw_tbl, w.before _ s = true := fun w h => hts w (List.mem_cons_of_mem _ h)
  have hown : s.vm.findClass R_SS = some m.cls := findClass_of_methodNamed B.named
  have hlocks := B.notSynchronized
  have hl := lv_entry ([.int p0, .int p1] : List Value) (n := 2) (Nat.le_of_ble_eq_true rfl)
  rw [lg_entry_eq]
  generalize (lg_sl ([.int p0, .int p1] : List Value) ++ List.replicate (2 - (lg_sl ([.int p0, .int p1] : List Value)).length) Slot.unset).toArray = ls at hl ⊢
  have hl : lv_has ls 2 [(0, .int p0), (1, .int p1)] := hl
  unfold SS_hasBit_w at hw
  refine lv_iload_n hx hb d_SS_hasBit_0 rfl (lv_at hl 0 rfl) ?_
  refine lv_iload_n hx hb d_SS_hasBit_1 rfl (lv_at hl 1 rfl) ?_
  refine lv_ishr hx hb d_SS_hasBit_2 ?_
  refine lv_iconst (v := (1 : Int32)) hx hb d_SS_hasBit_3 (by decide) ?_
  refine lv_iand hx hb d_SS_hasBit_4 ?_
  refine lv_iconst (v := (1 : Int32)) hx hb d_SS_hasBit_5 (by decide) ?_
  refine lv_icmp_ne (tgt := 13) hx hb d_SS_hasBit_6 (by decide) (fun c6 => ?_) (fun c6 => ?_)
  · have hw := zw_ite_f c6 hw
    refine lv_iconst (v := (0 : Int32)) hx hb d_SS_hasBit_13 (by decide) ?_
    exact W.zret (v := (0 : Int32)) (ty := .boolean) hx hb hr rfl (fun t ht hW => ⟨(0 : Int32), rfl, hw, ht⟩) t_nil d_SS_hasBit_14
  · have hw := zw_ite_t c6 hw
    refine lv_iconst (v := (1 : Int32)) hx hb d_SS_hasBit_9 (by decide) ?_
    refine lv_goto (tgt := 14) hx hb d_SS_hasBit_10 (by decide) ?_
    exact W.zret (v := (1 : Int32)) (ty := .boolean) hx hb hr rfl (fun t ht hW => ⟨(1 : Int32), rfl, hw, ht⟩) t_nil d_SS_hasBit_14
def Gi_mustFollow_w (fi : Nat → Int32) (fl : Nat → Int64) (ai : Nat → Nat → Int32) (al : Nat → Nat → Int64) (p0 : Int32) (p1 : Int32) (K : Int32 → Prop) : Prop :=
  vp_in p0 6 ∧ (
  SS_hasBit_w (ai 39 p0.toNatClampNeg) p1 (fun (r7 : Int32) =>
  zw_bool r7 ∧ (K r7)))
theorem d_Gi_mustFollow_0 : decode b_Gi_mustFollow 0 = .ok (.aload_n 0, 1) := by decide +kernel
theorem d_Gi_mustFollow_1 : decode b_Gi_mustFollow 1 = .ok (.getfield 29, 3) := by decide +kernel
theorem d_Gi_mustFollow_4 : decode b_Gi_mustFollow 4 = .ok (.iload_n 1, 1) := by decide +kernel
theorem d_Gi_mustFollow_5 : decode b_Gi_mustFollow 5 = .ok (.iaload, 1) := by decide +kernel
theorem d_Gi_mustFollow_6 : decode b_Gi_mustFollow 6 = .ok (.iload_n 2, 1) := by decide +kernel
theorem d_Gi_mustFollow_7 : decode b_Gi_mustFollow 7 = .ok (.invokestatic 40, 3) := by decide +kernel
theorem d_Gi_mustFollow_10 : decode b_Gi_mustFollow 10 = .ok (.ireturn, 1) := by decide +kernel
set_option maxHeartbeats 4000000 in
set_option maxRecDepth 100000 in
theorem c_Gi_mustFollow (l : Launch) (dC : Nat → ClassId) (dI : Nat → Nat → Nat) (cI cJ cG cZ : ClassId) (a : Nat → Nat) (fi : Nat → Int32) (fl : Nat → Int64) (ai : Nat → Nat → Int32) (al : Nat → Nat → Int64) (p0 : Int32) (p1 : Int32) (K : Int32 → Prop) (hw : Gi_mustFollow_w fi fl ai al p0 p1 K) : Met l y_Gi_mustFollow ws_Gi_mustFollow ({ frames := 1, cells := 0, slots := 0, locals := 21 }) (va_Pc [.ref (a 19), .int p0, .int p1] (zw_B (dC, dI) vwCl [(cI, .int), (cJ, .long), (cG, .array .int), (cZ, .boolean)] (cw cI cJ cG cZ a fi fl ai al))) (vp_Si K) 0 0 (fun _ => False) := by
  refine Met.ofW (cc := b_Gi_mustFollow) (maxL := 3) (ret := (Option.some FieldType.boolean)) (by decide) rfl ?_
  intro p e s m args below meth c s₁ B hml hv
  obtain ⟨rfl, hP, hK, hN⟩ := hv
  have hx := B.exec
  have hb := B.bytes
  have hr := B.returns
  have hts := atoms_spec (ws := ws_Gi_mustFollow) B.pre
  have ht : ∀ w ∈ zw_tbl, w.before _ s = true := fun w h => hts w (List.mem_cons_of_mem _ h)
  have hown : s.vm.findClass R_Gi = some m.cls := findClass_of_methodNamed B.named
  have hlocks := B.notSynchronized
  have hl := lv_entry ([.ref (a 19), .int p0, .int p1] : List Value) (n := 3) (Nat.le_of_ble_eq_true rfl)
  rw [lg_entry_eq]
  generalize (lg_sl ([.ref (a 19), .int p0, .int p1] : List Value) ++ List.replicate (3 - (lg_sl ([.ref (a 19), .int p0, .int p1] : List Value)).length) Slot.unset).toArray = ls at hl ⊢
  have hl : lv_has ls 3 [(0, .ref (a 19)), (1, .int p0), (2, .int p1)] := hl
  unfold Gi_mustFollow_w at hw
  refine lv_aload_n hx hb d_Gi_mustFollow_0 rfl (lv_at hl 0 rfl) ?_
  refine va_get (D := (dC, dI)) (ci := 2) (v := .ref (a 39)) (C := R_Gi) (T := T_Gi) (N := 7) hx hb ht in_Gi hown hK hP 19 rfl rfl 6 (by decide) (ht _ kw_152) (fun _ h9 => h9) rfl d_Gi_mustFollow_1 ?_
  refine lv_iload_n hx hb d_Gi_mustFollow_4 rfl (lv_at hl 1 rfl) ?_
  obtain ⟨h5, hw⟩ := hw
  refine va_iald (f := ai 39) hx hb hK hP 39 0 rfl rfl h5 d_Gi_mustFollow_5 ?_
  refine lv_iload_n hx hb d_Gi_mustFollow_6 rfl (lv_at hl 2 rfl) ?_
  refine vp_callSi (va_Run.run (va_runSN (As := [.int (ai 39 p0.toNatClampNeg), .int p1]) (rest := []) ⟨hx, hb, hml, hown, hts⟩ (c_SS_hasBit l (ai 39 p0.toNatClampNeg) p1 _ hw) ⟨va_cnB 2 hts (zw_goodC kw_321) rfl rfl rfl (hN _ nw_319) (ht _ kw_1) hd_SS_hasBit.2 ⟨Nat.le_of_ble_eq_true rfl, Nat.le_of_ble_eq_true rfl⟩, ht _ kw_320, trivial⟩ zw_preS0 rfl rfl hl.1 rfl (lv_room (Nat.le_of_ble_eq_true rfl)) d_Gi_mustFollow_7 ⟨Nat.le_of_ble_eq_true rfl, Nat.le_of_ble_eq_true rfl⟩)) (fun r7 hw => ?_)
  obtain ⟨hz, hw⟩ := hw
  exact W.zret (v := r7) (ty := .boolean) hx hb hr (zw_bool_n hz) (fun t ht hW => ⟨r7, rfl, hw, ht⟩) t_nil d_Gi_mustFollow_10
def Pl_placeOf_w (fi : Nat → Int32) (fl : Nat → Int64) (ai : Nat → Nat → Int32) (al : Nat → Nat → Int64) (p0 : Int32) (K : Int32 → Prop) : Prop :=
  zw_nm (0 : Int32) (fun (v1 : Int32) =>
  zw_lp1 (fun L2 (x2_2 : Int32) =>
  if (fi 4) ≤ x2_2 then (
    K (-1 : Int32))
  else (
    vp_in x2_2 6 ∧ (
    if (ai 10 x2_2.toNatClampNeg) = p0 then (
      K x2_2)
    else (
      zw_nm (x2_2 + (1 : Int32)) (fun (v22 : Int32) =>
      L2 v22))))) v1)
theorem d_Pl_placeOf_0 : decode b_Pl_placeOf 0 = .ok (.iconst 0, 1) := by decide +kernel
theorem d_Pl_placeOf_1 : decode b_Pl_placeOf 1 = .ok (.istore_n 2, 1) := by decide +kernel
theorem d_Pl_placeOf_2 : decode b_Pl_placeOf 2 = .ok (.iload_n 2, 1) := by decide +kernel
theorem d_Pl_placeOf_3 : decode b_Pl_placeOf 3 = .ok (.aload_n 0, 1) := by decide +kernel
theorem d_Pl_placeOf_4 : decode b_Pl_placeOf 4 = .ok (.getfield 64, 3) := by decide +kernel
theorem d_Pl_placeOf_7 : decode b_Pl_placeOf 7 = .ok (.if_icmp .ge (21), 3) := by decide +kernel
theorem d_Pl_placeOf_10 : decode b_Pl_placeOf 10 = .ok (.aload_n 0, 1) := by decide +kernel
theorem d_Pl_placeOf_11 : decode b_Pl_placeOf 11 = .ok (.getfield 27, 3) := by decide +kernel
theorem d_Pl_placeOf_14 : decode b_Pl_placeOf 14 = .ok (.iload_n 2, 1) := by decide +kernel
theorem d_Pl_placeOf_15 : decode b_Pl_placeOf 15 = .ok (.iaload, 1) := by decide +kernel
theorem d_Pl_placeOf_16 : decode b_Pl_placeOf 16 = .ok (.iload_n 1, 1) := by decide +kernel
theorem d_Pl_placeOf_17 : decode b_Pl_placeOf 17 = .ok (.if_icmp .ne (5), 3) := by decide +kernel
theorem d_Pl_placeOf_20 : decode b_Pl_placeOf 20 = .ok (.iload_n 2, 1) := by decide +kernel
theorem d_Pl_placeOf_21 : decode b_Pl_placeOf 21 = .ok (.ireturn, 1) := by decide +kernel
theorem d_Pl_placeOf_22 : decode b_Pl_placeOf 22 = .ok (.iinc 2 (1), 3) := by decide +kernel
theorem d_Pl_placeOf_25 : decode b_Pl_placeOf 25 = .ok (.goto (-23), 3) := by decide +kernel
theorem d_Pl_placeOf_28 : decode b_Pl_placeOf 28 = .ok (.iconst (-1), 1) := by decide +kernel
theorem d_Pl_placeOf_29 : decode b_Pl_placeOf 29 = .ok (.ireturn, 1) := by decide +kernel
set_option maxHeartbeats 4000000 in
set_option maxRecDepth 100000 in
theorem c_Pl_placeOf (l : Launch) (dC : Nat → ClassId) (dI : Nat → Nat → Nat) (cI cJ cG cZ : ClassId) (a : Nat → Nat) (fi : Nat → Int32) (fl : Nat → Int64) (ai : Nat → Nat → Int32) (al : Nat → Nat → Int64) (p0 : Int32) (K : Int32 → Prop) (hw : Pl_placeOf_w fi fl ai al p0 K) : Met l y_Pl_placeOf ws_Pl_placeOf ({ frames := 0, cells := 0, slots := 0, locals := 0 }) (va_Pc [.ref (a 4), .int p0] (zw_B (dC, dI) vwCl [(cI, .int), (cJ, .long), (cG, .array .int), (cZ, .boolean)] (cw cI cJ cG cZ a fi fl ai al))) (vp_Si K) 0 0 (fun _ => False) := by
  refine Met.ofW (cc := b_Pl_placeOf) (maxL := 3) (ret := (Option.some FieldType.int)) (by decide) rfl ?_
  intro p e s m args below meth c s₁ B hml hv
  obtain ⟨rfl, hP, hK, hN⟩ := hv
  have hx := B.exec
  have hb := B.bytes
  have hr := B.returns
  have hts := atoms_spec (ws := ws_Pl_placeOf) B.pre
  have ht : ∀ w ∈ zw_tbl, w.before _ s = true := fun w h => hts w (List.mem_cons_of_mem _ h)
  have hown : s.vm.findClass R_Pl = some m.cls := findClass_of_methodNamed B.named
  have hlocks := B.notSynchronized
  have hl := lv_entry ([.ref (a 4), .int p0] : List Value) (n := 3) (Nat.le_of_ble_eq_true rfl)
  rw [lg_entry_eq]
  generalize (lg_sl ([.ref (a 4), .int p0] : List Value) ++ List.replicate (3 - (lg_sl ([.ref (a 4), .int p0] : List Value)).length) Slot.unset).toArray = ls at hl ⊢
  have hl : lv_has ls 3 [(0, .ref (a 4)), (1, .int p0)] := hl
  unfold Pl_placeOf_w at hw
  refine lv_iconst (v := (0 : Int32)) hx hb d_Pl_placeOf_0 (by decide) ?_
  refine lv_topi (fun v1 ev1 => ?_)
  have hw := zw_nm_x ev1 hw
  refine lv_istore_n (lv' := [(2, .int v1), (0, .ref (a 4)), (1, .int p0)]) hx hb d_Pl_placeOf_1 rfl hl (by decide) rfl (fun ls hl => ?_)
  refine (zw_lp1_i (P := fun (x2_2 : Int32) => ∀ (ls : Array Slot), lv_has ls 3 [(0, .ref (a 4)), (1, .int p0), (2, .int x2_2)] → W p l e (headSpec ws_Pl_placeOf ({ frames := 0, cells := 0, slots := 0, locals := 0 })).room s m ([.ref (a 4), .int p0] : List Value).toArray below meth c s.heap [] 0 0 (MQ below (vp_Si K) ([.ref (a 4), .int p0] : List Value).toArray s 0 0 (fun _ => False)) (F0 m 2 ls [])) hw (fun L2 x2_2 ih2 hw ls hl => ?_)) ls (lv_sub hl [1, 2, 0] rfl)
  refine lv_iload_n hx hb d_Pl_placeOf_2 rfl (lv_at hl 2 rfl) ?_
  refine lv_aload_n hx hb d_Pl_placeOf_3 rfl (lv_at hl 0 rfl) ?_
  refine va_get (D := (dC, dI)) (ci := 3) (v := .int (fi 4)) (C := R_Pl) (T := T_Pl) (N := 11) hx hb ht in_Pl hown hK hP 4 rfl rfl 9 (by decide) (ht _ kw_68) (fun _ h9 => h9) rfl d_Pl_placeOf_4 ?_
  refine lv_icmp_ge (tgt := 28) hx hb d_Pl_placeOf_7 (by decide) (fun c7 => ?_) (fun c7 => ?_)
  · have hw := zw_ite_t c7 hw
    refine lv_iconst (v := (-1 : Int32)) hx hb d_Pl_placeOf_28 (by decide) ?_
    exact W.iret (v := (-1 : Int32)) hx hb hr (fun t ht hW => ⟨(-1 : Int32), rfl, hw, ht⟩) t_nil d_Pl_placeOf_29
  · have hw := zw_ite_f c7 hw
    refine lv_aload_n hx hb d_Pl_placeOf_10 rfl (lv_at hl 0 rfl) ?_
    refine va_get (D := (dC, dI)) (ci := 3) (v := .ref (a 10)) (C := R_Pl) (T := T_Pl) (N := 11) hx hb ht in_Pl hown hK hP 4 rfl rfl 5 (by decide) (ht _ kw_54) (fun _ h9 => h9) rfl d_Pl_placeOf_11 ?_
    refine lv_iload_n hx hb d_Pl_placeOf_14 rfl (lv_at hl 2 rfl) ?_
    obtain ⟨h15, hw⟩ := hw
    refine va_iald (f := ai 10) hx hb hK hP 10 0 rfl rfl h15 d_Pl_placeOf_15 ?_
    refine lv_iload_n hx hb d_Pl_placeOf_16 rfl (lv_at hl 1 rfl) ?_
    refine lv_icmp_ne (tgt := 22) hx hb d_Pl_placeOf_17 (by decide) (fun c17 => ?_) (fun c17 => ?_)
    · have hw := zw_ite_f c17 hw
      obtain ⟨v22, ev22⟩ : ∃ y : Int32, y = x2_2 + (1 : Int32) := ⟨_, rfl⟩
      refine lv_iinc (v := v22) (lv' := [(2, .int v22), (0, .ref (a 4)), (1, .int p0)]) hx hb d_Pl_placeOf_22 hl (k := 2) rfl (by rw [ev22]; rfl) (by decide) rfl (fun ls hl => ?_)
      have hw := zw_nm_x ev22 hw
      refine lv_goto (tgt := 2) hx hb d_Pl_placeOf_25 (by decide) ?_
      exact (ih2 v22 hw) ls (lv_sub hl [1, 2, 0] rfl)
    · have hw := zw_ite_t c17 hw
      refine lv_iload_n hx hb d_Pl_placeOf_20 rfl (lv_at hl 2 rfl) ?_
      exact W.iret (v := x2_2) hx hb hr (fun t ht hW => ⟨x2_2, rfl, hw, ht⟩) t_nil d_Pl_placeOf_21
def Gi_follow_w (fi : Nat → Int32) (fl : Nat → Int64) (ai : Nat → Nat → Int32) (al : Nat → Nat → Int64) (p0 : Int32) (p1 : Int32) (K : (Nat → Nat → Int32) → Prop) : Prop :=
  vp_in p0 6 ∧ (
  zw_nm ((ai 39 p0.toNatClampNeg) ||| ((1 : Int32) <<< (p0 &&& 31))) (fun (v10 : Int32) =>
  zw_nm (0 : Int32) (fun (v12 : Int32) =>
  zw_lp2 (fun L14 (x14_4 : Int32) (ai14 : Nat → Nat → Int32) =>
  if (fi 7) ≤ x14_4 then (
    K ai14)
  else (
    zw_jn1 (fun (ai50 : Nat → Nat → Int32) =>
    zw_nm (x14_4 + (1 : Int32)) (fun (v50 : Int32) =>
    L14 v50 ai50)) (fun J50 =>
    zw_jn0 (
    vp_in x14_4 6 ∧ (
    vp_in x14_4 6 ∧ (zw_nm (va_up ai14 39 (upd (ai14 39) x14_4.toNatClampNeg ((ai14 39 x14_4.toNatClampNeg) ||| v10))) (fun (ai_49 : Nat → Nat → Int32) =>
    J50 ai_49)))) (fun J39 =>
    if x14_4 = p1 then (
      J39)
    else (
      Gi_mustFollow_w fi fl ai14 al x14_4 p1 (fun (r33 : Int32) =>
      if r33 = 0 then (
        J50 ai14)
      else (
        J39))))))) v12 ai)))
theorem d_Gi_follow_0 : decode b_Gi_follow 0 = .ok (.aload_n 0, 1) := by decide +kernel
theorem d_Gi_follow_1 : decode b_Gi_follow 1 = .ok (.getfield 29, 3) := by decide +kernel
theorem d_Gi_follow_4 : decode b_Gi_follow 4 = .ok (.iload_n 1, 1) := by decide +kernel
theorem d_Gi_follow_5 : decode b_Gi_follow 5 = .ok (.iaload, 1) := by decide +kernel
theorem d_Gi_follow_6 : decode b_Gi_follow 6 = .ok (.iconst 1, 1) := by decide +kernel
theorem d_Gi_follow_7 : decode b_Gi_follow 7 = .ok (.iload_n 1, 1) := by decide +kernel
theorem d_Gi_follow_8 : decode b_Gi_follow 8 = .ok (.ishl, 1) := by decide +kernel
theorem d_Gi_follow_9 : decode b_Gi_follow 9 = .ok (.ior, 1) := by decide +kernel
theorem d_Gi_follow_10 : decode b_Gi_follow 10 = .ok (.istore_n 3, 1) := by decide +kernel
theorem d_Gi_follow_11 : decode b_Gi_follow 11 = .ok (.iconst 0, 1) := by decide +kernel
theorem d_Gi_follow_12 : decode b_Gi_follow 12 = .ok (.istore 4, 2) := by decide +kernel
theorem d_Gi_follow_14 : decode b_Gi_follow 14 = .ok (.iload 4, 2) := by decide +kernel
theorem d_Gi_follow_16 : decode b_Gi_follow 16 = .ok (.aload_n 0, 1) := by decide +kernel
theorem d_Gi_follow_17 : decode b_Gi_follow 17 = .ok (.getfield 32, 3) := by decide +kernel
theorem d_Gi_follow_20 : decode b_Gi_follow 20 = .ok (.if_icmp .ge (36), 3) := by decide +kernel
theorem d_Gi_follow_23 : decode b_Gi_follow 23 = .ok (.iload 4, 2) := by decide +kernel
theorem d_Gi_follow_25 : decode b_Gi_follow 25 = .ok (.iload_n 2, 1) := by decide +kernel
theorem d_Gi_follow_26 : decode b_Gi_follow 26 = .ok (.if_icmp .eq (13), 3) := by decide +kernel
theorem d_Gi_follow_29 : decode b_Gi_follow 29 = .ok (.aload_n 0, 1) := by decide +kernel
theorem d_Gi_follow_30 : decode b_Gi_follow 30 = .ok (.iload 4, 2) := by decide +kernel
theorem d_Gi_follow_32 : decode b_Gi_follow 32 = .ok (.iload_n 2, 1) := by decide +kernel
theorem d_Gi_follow_33 : decode b_Gi_follow 33 = .ok (.invokevirtual 44, 3) := by decide +kernel
theorem d_Gi_follow_36 : decode b_Gi_follow 36 = .ok (.ifCond .eq (14), 3) := by decide +kernel
theorem d_Gi_follow_39 : decode b_Gi_follow 39 = .ok (.aload_n 0, 1) := by decide +kernel
theorem d_Gi_follow_40 : decode b_Gi_follow 40 = .ok (.getfield 29, 3) := by decide +kernel
theorem d_Gi_follow_43 : decode b_Gi_follow 43 = .ok (.iload 4, 2) := by decide +kernel
theorem d_Gi_follow_45 : decode b_Gi_follow 45 = .ok (.dup2, 1) := by decide +kernel
theorem d_Gi_follow_46 : decode b_Gi_follow 46 = .ok (.iaload, 1) := by decide +kernel
theorem d_Gi_follow_47 : decode b_Gi_follow 47 = .ok (.iload_n 3, 1) := by decide +kernel
theorem d_Gi_follow_48 : decode b_Gi_follow 48 = .ok (.ior, 1) := by decide +kernel
theorem d_Gi_follow_49 : decode b_Gi_follow 49 = .ok (.iastore, 1) := by decide +kernel
theorem d_Gi_follow_50 : decode b_Gi_follow 50 = .ok (.iinc 4 (1), 3) := by decide +kernel
theorem d_Gi_follow_53 : decode b_Gi_follow 53 = .ok (.goto (-39), 3) := by decide +kernel
theorem d_Gi_follow_56 : decode b_Gi_follow 56 = .ok (.return_, 1) := by decide +kernel
set_option maxHeartbeats 4000000 in
set_option maxRecDepth 100000 in
theorem c_Gi_follow (l : Launch) (dC : Nat → ClassId) (dI : Nat → Nat → Nat) (cI cJ cG cZ : ClassId) (a : Nat → Nat) (sz : Nat) (fi : Nat → Int32) (fl : Nat → Int64) (ai : Nat → Nat → Int32) (al : Nat → Nat → Int64) (p0 : Int32) (p1 : Int32) (K : (Nat → Nat → Int32) → Prop) (hw : Gi_follow_w fi fl ai al p0 p1 K) : Met l y_Gi_follow ws_Gi_follow ({ frames := 2, cells := 0, slots := 0, locals := 43 }) (va_Pc [.ref (a 19), .int p0, .int p1] (zw_Bw (dC, dI) vwCl [(cI, .int), (cJ, .long), (cG, .array .int), (cZ, .boolean)] (cw cI cJ cG cZ a fi fl ai al) sz)) (va_Qv (fun (u : zw_Z) => (zw_k_aiv fi fl al K) u.1 u.2.1 u.2.2.1 u.2.2.2) (fun u t => zw_E (dC, dI) vwCl [(cI, .int), (cJ, .long), (cG, .array .int), (cZ, .boolean)] (va_A (cw cI cJ cG cZ a fi fl ai al) sz) (cw cI cJ cG cZ a u.1 u.2.1 u.2.2.1 u.2.2.2) t) (va_A (cw cI cJ cG cZ a fi fl ai al) sz)) 0 0 (va_A (cw cI cJ cG cZ a fi fl ai al) sz) := by
  refine Met.ofW (cc := b_Gi_follow) (maxL := 5) (ret := (Option.none : Option FieldType)) (by decide) rfl ?_
  intro p e s m args below meth c s₁ B hml hv
  obtain ⟨rfl, hsz, hP, hK, hD0, hN⟩ := hv
  have hx := B.exec
  have hb := B.bytes
  have hr := B.returns
  have hts := atoms_spec (ws := ws_Gi_follow) B.pre
  have ht : ∀ w ∈ zw_tbl, w.before _ s = true := fun w h => hts w (List.mem_cons_of_mem _ h)
  have hown : s.vm.findClass R_Gi = some m.cls := findClass_of_methodNamed B.named
  have hlocks := B.notSynchronized
  subst hsz
  have hD := hD0.self (sz := s.heap.size)
  generalize hAe : va_A (cw cI cJ cG cZ a fi fl ai al) s.heap.size = A at hD ⊢
  have hA : ∀ q : Nat, s.heap.size ≤ q → A q := fun q h => by rw [← hAe]; exact Or.inr h
  have hS : va_S A s.heap s.heap [] := va_S.rf
  have hl := lv_entry ([.ref (a 19), .int p0, .int p1] : List Value) (n := 5) (Nat.le_of_ble_eq_true rfl)
  rw [lg_entry_eq]
  generalize (lg_sl ([.ref (a 19), .int p0, .int p1] : List Value) ++ List.replicate (5 - (lg_sl ([.ref (a 19), .int p0, .int p1] : List Value)).length) Slot.unset).toArray = ls at hl ⊢
  have hl : lv_has ls 5 [(0, .ref (a 19)), (1, .int p0), (2, .int p1)] := hl
  unfold Gi_follow_w at hw
  obtain ⟨H, hH⟩ : ∃ H, H = s.heap := ⟨_, rfl⟩
  obtain ⟨locs, hlo⟩ : ∃ q : List Loc, q = [] := ⟨_, rfl⟩
  have hP : va_P (dC, dI) vwCl (cw cI cJ cG cZ a fi fl ai al) H := by rw [hH]; exact hP
  have hS : va_S A s.heap H locs := by rw [hH, hlo]; exact hS
  have key : W p l e (headSpec ws_Gi_follow ({ frames := 2, cells := 0, slots := 0, locals := 43 })).room s m ([.ref (a 19), .int p0, .int p1] : List Value).toArray below meth c H locs 0 0 (MQ below (va_Qv (fun (u : zw_Z) => (zw_k_aiv fi fl al K) u.1 u.2.1 u.2.2.1 u.2.2.2) (fun u t => zw_E (dC, dI) vwCl [(cI, .int), (cJ, .long), (cG, .array .int), (cZ, .boolean)] A (cw cI cJ cG cZ a u.1 u.2.1 u.2.2.1 u.2.2.2) t) A) ([.ref (a 19), .int p0, .int p1] : List Value).toArray s 0 0 A) (F0 m 0 ls []) := by
    refine lv_aload_n hx hb d_Gi_follow_0 rfl (lv_at hl 0 rfl) ?_
    refine va_get (D := (dC, dI)) (ci := 2) (v := .ref (a 39)) (C := R_Gi) (T := T_Gi) (N := 7) hx hb ht in_Gi hown hK hP 19 rfl rfl 6 (by decide) (ht _ kw_152) (fun _ h9 => h9) rfl d_Gi_follow_1 ?_
    refine lv_iload_n hx hb d_Gi_follow_4 rfl (lv_at hl 1 rfl) ?_
    obtain ⟨h5, hw⟩ := hw
    refine va_iald (f := ai 39) hx hb hK hP 39 0 rfl rfl h5 d_Gi_follow_5 ?_
    refine lv_iconst (v := (1 : Int32)) hx hb d_Gi_follow_6 (by decide) ?_
    refine lv_iload_n hx hb d_Gi_follow_7 rfl (lv_at hl 1 rfl) ?_
    refine lv_ishl hx hb d_Gi_follow_8 ?_
    refine lv_ior hx hb d_Gi_follow_9 ?_
    refine lv_topi (fun v10 ev10 => ?_)
    have hw := zw_nm_x ev10 hw
    refine lv_istore_n (lv' := [(3, .int v10), (0, .ref (a 19)), (1, .int p0), (2, .int p1)]) hx hb d_Gi_follow_10 rfl hl (by decide) rfl (fun ls hl => ?_)
    refine lv_iconst (v := (0 : Int32)) hx hb d_Gi_follow_11 (by decide) ?_
    refine lv_topi (fun v12 ev12 => ?_)
    have hw := zw_nm_x ev12 hw
    refine lv_istore (lv' := [(4, .int v12), (3, .int v10), (0, .ref (a 19)), (1, .int p0), (2, .int p1)]) hx hb d_Gi_follow_12 hl (by decide) rfl (fun ls hl => ?_)
    refine (zw_lp2_i (P := fun (x14_4 : Int32) (ai14 : Nat → Nat → Int32) => ∀ (H : Heap) (locs : List Loc) (ls : Array Slot), va_P (dC, dI) vwCl (cw cI cJ cG cZ a fi fl ai14 al) H → va_D A (cw cI cJ cG cZ a fi fl ai14 al) → va_S A s.heap H locs → lv_has ls 5 [(0, .ref (a 19)), (2, .int p1), (3, .int v10), (4, .int x14_4)] → W p l e (headSpec ws_Gi_follow ({ frames := 2, cells := 0, slots := 0, locals := 43 })).room s m ([.ref (a 19), .int p0, .int p1] : List Value).toArray below meth c H locs 0 0 (MQ below (va_Qv (fun (u : zw_Z) => (zw_k_aiv fi fl al K) u.1 u.2.1 u.2.2.1 u.2.2.2) (fun u t => zw_E (dC, dI) vwCl [(cI, .int), (cJ, .long), (cG, .array .int), (cZ, .boolean)] A (cw cI cJ cG cZ a u.1 u.2.1 u.2.2.1 u.2.2.2) t) A) ([.ref (a 19), .int p0, .int p1] : List Value).toArray s 0 0 A) (F0 m 14 ls [])) hw (fun L14 x14_4 ai14 ih14 hw H locs ls hP hD hS hl => ?_)) H locs ls hP hD hS (lv_sub hl [2, 4, 1, 0] rfl)
    refine lv_iload hx hb d_Gi_follow_14 (lv_at hl 3 rfl) ?_
    refine lv_aload_n hx hb d_Gi_follow_16 rfl (lv_at hl 0 rfl) ?_
    refine va_get (D := (dC, dI)) (ci := 2) (v := .int (fi 7)) (C := R_Gi) (T := T_Gi) (N := 7) hx hb ht in_Gi hown hK hP 19 rfl rfl 0 (by decide) (ht _ kw_134) (fun _ h9 => h9) rfl d_Gi_follow_17 ?_
    refine lv_icmp_ge (tgt := 56) hx hb d_Gi_follow_20 (by decide) (fun c20 => ?_) (fun c20 => ?_)
    · have hw := zw_ite_t c20 hw
      exact W.vret hx hb hr (fun t ht hW => ⟨⟨(fi, fl, ai14, al), rfl, ⟨rfl, rfl, rfl, hw⟩, by rw [ht]; exact hP, va_K.moved hW.alike hK, hD⟩, hS.F ht⟩) hS.2.2 d_Gi_follow_56
    · have hw := zw_ite_f c20 hw
      refine lv_iload hx hb d_Gi_follow_23 (lv_at hl 3 rfl) ?_
      refine lv_iload_n hx hb d_Gi_follow_25 rfl (lv_at hl 1 rfl) ?_
      refine zw_jn1_i (P := fun (ai50 : Nat → Nat → Int32) => ∀ (H : Heap) (locs : List Loc) (ls : Array Slot), va_P (dC, dI) vwCl (cw cI cJ cG cZ a fi fl ai50 al) H → va_D A (cw cI cJ cG cZ a fi fl ai50 al) → va_S A s.heap H locs → lv_has ls 5 [(0, .ref (a 19)), (2, .int p1), (3, .int v10), (4, .int x14_4)] → W p l e (headSpec ws_Gi_follow ({ frames := 2, cells := 0, slots := 0, locals := 43 })).room s m ([.ref (a 19), .int p0, .int p1] : List Value).toArray below meth c H locs 0 0 (MQ below (va_Qv (fun (u : zw_Z) => (zw_k_aiv fi fl al K) u.1 u.2.1 u.2.2.1 u.2.2.2) (fun u t => zw_E (dC, dI) vwCl [(cI, .int), (cJ, .long), (cG, .array .int), (cZ, .boolean)] A (cw cI cJ cG cZ a u.1 u.2.1 u.2.2.1 u.2.2.2) t) A) ([.ref (a 19), .int p0, .int p1] : List Value).toArray s 0 0 A) (F0 m 50 ls [])) hw (fun ai50 hw H locs ls hP hD hS hl => ?_) (fun J50 hj50 hw => ?_)
      · obtain ⟨v50, ev50⟩ : ∃ y : Int32, y = x14_4 + (1 : Int32) := ⟨_, rfl⟩
        refine lv_iinc (v := v50) (lv' := [(4, .int v50), (0, .ref (a 19)), (2, .int p1), (3, .int v10)]) hx hb d_Gi_follow_50 hl (k := 3) rfl (by rw [ev50]; rfl) (by decide) rfl (fun ls hl => ?_)
        have hw := zw_nm_x ev50 hw
        refine lv_goto (tgt := 14) hx hb d_Gi_follow_53 (by decide) ?_
        exact (ih14 v50 ai50 hw) H locs ls hP hD hS (lv_sub hl [1, 2, 3, 0] rfl)
      · refine zw_jn0_i (P := ∀ (H : Heap) (locs : List Loc) (ls : Array Slot), va_P (dC, dI) vwCl (cw cI cJ cG cZ a fi fl ai14 al) H → va_D A (cw cI cJ cG cZ a fi fl ai14 al) → va_S A s.heap H locs → lv_has ls 5 [(0, .ref (a 19)), (2, .int p1), (3, .int v10), (4, .int x14_4)] → W p l e (headSpec ws_Gi_follow ({ frames := 2, cells := 0, slots := 0, locals := 43 })).room s m ([.ref (a 19), .int p0, .int p1] : List Value).toArray below meth c H locs 0 0 (MQ below (va_Qv (fun (u : zw_Z) => (zw_k_aiv fi fl al K) u.1 u.2.1 u.2.2.1 u.2.2.2) (fun u t => zw_E (dC, dI) vwCl [(cI, .int), (cJ, .long), (cG, .array .int), (cZ, .boolean)] A (cw cI cJ cG cZ a u.1 u.2.1 u.2.2.1 u.2.2.2) t) A) ([.ref (a 19), .int p0, .int p1] : List Value).toArray s 0 0 A) (F0 m 39 ls [])) hw (fun hw H locs ls hP hD hS hl => ?_) (fun J39 hj39 hw => ?_)
        · refine lv_aload_n hx hb d_Gi_follow_39 rfl (lv_at hl 0 rfl) ?_
          refine va_get (D := (dC, dI)) (ci := 2) (v := .ref (a 39)) (C := R_Gi) (T := T_Gi) (N := 7) hx hb ht in_Gi hown hK hP 19 rfl rfl 6 (by decide) (ht _ kw_152) (fun _ h9 => h9) rfl d_Gi_follow_40 ?_
          refine lv_iload hx hb d_Gi_follow_43 (lv_at hl 3 rfl) ?_
          refine lv_dup2_11 hx hb d_Gi_follow_45 rfl rfl ?_
          obtain ⟨h46, hw⟩ := hw
          refine va_iald (f := ai14 39) hx hb hK hP 39 0 rfl rfl h46 d_Gi_follow_46 ?_
          refine lv_iload_n hx hb d_Gi_follow_47 rfl (lv_at hl 2 rfl) ?_
          refine lv_ior hx hb d_Gi_follow_48 ?_
          obtain ⟨h49, hw⟩ := hw
          refine va_iast (f := ai14 39) hx hb hK hP hD hS 39 0 rfl rfl h49 d_Gi_follow_49 (fun H locs hP hD hS => ?_)
          have hP := cwpai_39 hP
          have hD := cwdai_39 hD
          obtain ⟨ai_49, eai_49⟩ : ∃ z, z = va_up ai14 39 (upd (ai14 39) x14_4.toNatClampNeg ((ai14 39 x14_4.toNatClampNeg) ||| v10)) := ⟨_, rfl⟩
          rw [← eai_49] at hP hD
          have hw := zw_nm_x eai_49 hw
          exact (hj50 ai_49 hw) H locs ls hP hD hS (lv_sub hl [0, 1, 2, 3] rfl)
        · refine lv_icmp_eq (tgt := 39) hx hb d_Gi_follow_26 (by decide) (fun c26 => ?_) (fun c26 => ?_)
          · have hw := zw_ite_t c26 hw
            exact (hj39  hw) H locs ls hP hD hS (lv_sub hl [0, 1, 2, 3] rfl)
          · have hw := zw_ite_f c26 hw
            refine lv_aload_n hx hb d_Gi_follow_29 rfl (lv_at hl 0 rfl) ?_
            refine lv_iload hx hb d_Gi_follow_30 (lv_at hl 3 rfl) ?_
            refine lv_iload_n hx hb d_Gi_follow_32 rfl (lv_at hl 1 rfl) ?_
            refine vp_callSi (va_Run.run (va_runV (As := [.int x14_4, .int p1]) (rest := []) ⟨hx, hb, hml, hown, hts⟩ (c_Gi_mustFollow l dC dI cI cJ cG cZ a fi fl ai14 al x14_4 p1 _ hw) (cwV 2 hts (zw_goodV kw_330 kw_316 kw_317 kw_5 kw_318) rfl rfl rfl hd_Gi_mustFollow ⟨Nat.le_of_ble_eq_true rfl, Nat.le_of_ble_eq_true rfl⟩) (zw_preV (ci := 2) (q0 := 19) hK hN hP rfl rfl) rfl rfl hl.1 rfl (lv_room (Nat.le_of_ble_eq_true rfl)) d_Gi_follow_33 ⟨Nat.le_of_ble_eq_true rfl, Nat.le_of_ble_eq_true rfl⟩)) (fun r33 hw => ?_)
            refine lv_if_eq (tgt := 50) hx hb d_Gi_follow_36 (by decide) (fun c36 => ?_) (fun c36 => ?_)
            · have hw := zw_ite_t c36 hw
              exact (hj50 ai14 hw) H locs ls hP hD hS (lv_sub hl [0, 1, 2, 3] rfl)
            · have hw := zw_ite_f c36 hw
              exact (hj39  hw) H locs ls hP hD hS (lv_sub hl [0, 1, 2, 3] rfl)
  rw [hH, hlo] at key
  exact key
def SS_after_w (fi : Nat → Int32) (fl : Nat → Int64) (ai : Nat → Nat → Int32) (al : Nat → Nat → Int64) (p0 : Int32) (p1 : Int32) (K : Int32 → (Nat → Nat → Int32) → Prop) : Prop :=
  Gi_hasPart_w fi fl ai al p0 (fun (r5 : Int32) =>
  if r5 = 0 then (
    K (0 : Int32) ai)
  else (
    Gi_hasPart_w fi fl ai al p1 (fun (r16 : Int32) =>
    if r16 = 0 then (
      K (0 : Int32) ai)
    else (
      if p0 = p1 then (
        K (0 : Int32) ai)
      else (
        Gi_mustFollow_w fi fl ai al p0 p1 (fun (r33 : Int32) =>
        if r33 = 0 then (
          Pl_placeOf_w fi fl ai al p0 (fun (r46 : Int32) =>
          Pl_placeOf_w fi fl ai al p1 (fun (r55 : Int32) =>
          zw_jn0 (
          Gi_follow_w fi fl ai al p0 p1 (fun (ai_83 : Nat → Nat → Int32) =>
          K (1 : Int32) ai_83)) (fun J77 =>
          if r55 < 0 then (
            J77)
          else (
            if r46 < 0 then (
              K (0 : Int32) ai)
            else (
              if r46 ≤ r55 then (
                J77)
              else (
                K (0 : Int32) ai)))))))
        else (
          K (0 : Int32) ai)))))))
theorem d_SS_after_0 : decode b_SS_after 0 = .ok (.aload_n 0, 1) := by decide +kernel
theorem d_SS_after_1 : decode b_SS_after 1 = .ok (.getfield 55, 3) := by decide +kernel
theorem d_SS_after_4 : decode b_SS_after 4 = .ok (.iload_n 1, 1) := by decide +kernel
theorem d_SS_after_5 : decode b_SS_after 5 = .ok (.invokevirtual 77, 3) := by decide +kernel
theorem d_SS_after_8 : decode b_SS_after 8 = .ok (.ifCond .eq (31), 3) := by decide +kernel
theorem d_SS_after_11 : decode b_SS_after 11 = .ok (.aload_n 0, 1) := by decide +kernel
theorem d_SS_after_12 : decode b_SS_after 12 = .ok (.getfield 55, 3) := by decide +kernel
theorem d_SS_after_15 : decode b_SS_after 15 = .ok (.iload_n 2, 1) := by decide +kernel
theorem d_SS_after_16 : decode b_SS_after 16 = .ok (.invokevirtual 77, 3) := by decide +kernel
theorem d_SS_after_19 : decode b_SS_after 19 = .ok (.ifCond .eq (20), 3) := by decide +kernel
theorem d_SS_after_22 : decode b_SS_after 22 = .ok (.iload_n 1, 1) := by decide +kernel
theorem d_SS_after_23 : decode b_SS_after 23 = .ok (.iload_n 2, 1) := by decide +kernel
theorem d_SS_after_24 : decode b_SS_after 24 = .ok (.if_icmp .eq (15), 3) := by decide +kernel
theorem d_SS_after_27 : decode b_SS_after 27 = .ok (.aload_n 0, 1) := by decide +kernel
theorem d_SS_after_28 : decode b_SS_after 28 = .ok (.getfield 55, 3) := by decide +kernel
theorem d_SS_after_31 : decode b_SS_after 31 = .ok (.iload_n 1, 1) := by decide +kernel
theorem d_SS_after_32 : decode b_SS_after 32 = .ok (.iload_n 2, 1) := by decide +kernel
theorem d_SS_after_33 : decode b_SS_after 33 = .ok (.invokevirtual 114, 3) := by decide +kernel
theorem d_SS_after_36 : decode b_SS_after 36 = .ok (.ifCond .eq (5), 3) := by decide +kernel
theorem d_SS_after_39 : decode b_SS_after 39 = .ok (.iconst 0, 1) := by decide +kernel
theorem d_SS_after_40 : decode b_SS_after 40 = .ok (.ireturn, 1) := by decide +kernel
theorem d_SS_after_41 : decode b_SS_after 41 = .ok (.aload_n 0, 1) := by decide +kernel
theorem d_SS_after_42 : decode b_SS_after 42 = .ok (.getfield 19, 3) := by decide +kernel
theorem d_SS_after_45 : decode b_SS_after 45 = .ok (.iload_n 1, 1) := by decide +kernel
theorem d_SS_after_46 : decode b_SS_after 46 = .ok (.invokevirtual 117, 3) := by decide +kernel
theorem d_SS_after_49 : decode b_SS_after 49 = .ok (.istore_n 3, 1) := by decide +kernel
theorem d_SS_after_50 : decode b_SS_after 50 = .ok (.aload_n 0, 1) := by decide +kernel
theorem d_SS_after_51 : decode b_SS_after 51 = .ok (.getfield 19, 3) := by decide +kernel
theorem d_SS_after_54 : decode b_SS_after 54 = .ok (.iload_n 2, 1) := by decide +kernel
theorem d_SS_after_55 : decode b_SS_after 55 = .ok (.invokevirtual 117, 3) := by decide +kernel
theorem d_SS_after_58 : decode b_SS_after 58 = .ok (.istore 4, 2) := by decide +kernel
theorem d_SS_after_60 : decode b_SS_after 60 = .ok (.iload 4, 2) := by decide +kernel
theorem d_SS_after_62 : decode b_SS_after 62 = .ok (.ifCond .lt (15), 3) := by decide +kernel
theorem d_SS_after_65 : decode b_SS_after 65 = .ok (.iload_n 3, 1) := by decide +kernel
theorem d_SS_after_66 : decode b_SS_after 66 = .ok (.ifCond .lt (9), 3) := by decide +kernel
theorem d_SS_after_69 : decode b_SS_after 69 = .ok (.iload_n 3, 1) := by decide +kernel
theorem d_SS_after_70 : decode b_SS_after 70 = .ok (.iload 4, 2) := by decide +kernel
theorem d_SS_after_72 : decode b_SS_after 72 = .ok (.if_icmp .le (5), 3) := by decide +kernel
theorem d_SS_after_75 : decode b_SS_after 75 = .ok (.iconst 0, 1) := by decide +kernel
theorem d_SS_after_76 : decode b_SS_after 76 = .ok (.ireturn, 1) := by decide +kernel
theorem d_SS_after_77 : decode b_SS_after 77 = .ok (.aload_n 0, 1) := by decide +kernel
theorem d_SS_after_78 : decode b_SS_after 78 = .ok (.getfield 55, 3) := by decide +kernel
theorem d_SS_after_81 : decode b_SS_after 81 = .ok (.iload_n 1, 1) := by decide +kernel
theorem d_SS_after_82 : decode b_SS_after 82 = .ok (.iload_n 2, 1) := by decide +kernel
theorem d_SS_after_83 : decode b_SS_after 83 = .ok (.invokevirtual 121, 3) := by decide +kernel
theorem d_SS_after_86 : decode b_SS_after 86 = .ok (.iconst 1, 1) := by decide +kernel
theorem d_SS_after_87 : decode b_SS_after 87 = .ok (.ireturn, 1) := by decide +kernel
set_option maxHeartbeats 4000000 in
set_option maxRecDepth 100000 in
theorem c_SS_after (l : Launch) (dC : Nat → ClassId) (dI : Nat → Nat → Nat) (cI cJ cG cZ : ClassId) (a : Nat → Nat) (sz : Nat) (fi : Nat → Int32) (fl : Nat → Int64) (ai : Nat → Nat → Int32) (al : Nat → Nat → Int64) (p0 : Int32) (p1 : Int32) (K : Int32 → (Nat → Nat → Int32) → Prop) (hw : SS_after_w fi fl ai al p0 p1 K) : Met l y_SS_after ws_SS_after ({ frames := 3, cells := 0, slots := 0, locals := 67 }) (va_Pc [.ref (a 0), .int p0, .int p1] (zw_Bw (dC, dI) vwCl [(cI, .int), (cJ, .long), (cG, .array .int), (cZ, .boolean)] (cw cI cJ cG cZ a fi fl ai al) sz)) (va_Qi (fun r (u : zw_Z) => (zw_k_air fi fl al K) r u.1 u.2.1 u.2.2.1 u.2.2.2) (fun u t => zw_E (dC, dI) vwCl [(cI, .int), (cJ, .long), (cG, .array .int), (cZ, .boolean)] (va_A (cw cI cJ cG cZ a fi fl ai al) sz) (cw cI cJ cG cZ a u.1 u.2.1 u.2.2.1 u.2.2.2) t) (va_A (cw cI cJ cG cZ a fi fl ai al) sz)) 0 0 (va_A (cw cI cJ cG cZ a fi fl ai al) sz) := by
  refine Met.ofW (cc := b_SS_after) (maxL := 5) (ret := (Option.some FieldType.boolean)) (by decide) rfl ?_
  intro p e s m args below meth c s₁ B hml hv
  obtain ⟨rfl, hsz, hP, hK, hD0, hN⟩ := hv
  have hx := B.exec
  have hb := B.bytes
  have hr := B.returns
  have hts := atoms_spec (ws := ws_SS_after) B.pre
  have ht : ∀ w ∈ zw_tbl, w.before _ s = true := fun w h => hts w (List.mem_cons_of_mem _ h)
  have hown : s.vm.findClass R_SS = some m.cls := findClass_of_methodNamed B.named
  have hlocks := B.notSynchronized
  subst hsz
  have hD := hD0.self (sz := s.heap.size)
  generalize hAe : va_A (cw cI cJ cG cZ a fi fl ai al) s.heap.size = A at hD ⊢
  have hA : ∀ q : Nat, s.heap.size ≤ q → A q := fun q h => by rw [← hAe]; exact Or.inr h
  have hS : va_S A s.heap s.heap [] := va_S.rf
  have hl := lv_entry ([.ref (a 0), .int p0, .int p1] : List Value) (n := 5) (Nat.le_of_ble_eq_true rfl)
  rw [lg_entry_eq]
  generalize (lg_sl ([.ref (a 0), .int p0, .int p1] : List Value) ++ List.replicate (5 - (lg_sl ([.ref (a 0), .int p0, .int p1] : List Value)).length) Slot.unset).toArray = ls at hl ⊢
  have hl : lv_has ls 5 [(0, .ref (a 0)), (1, .int p0), (2, .int p1)] := hl
  unfold SS_after_w at hw
  obtain ⟨H, hH⟩ : ∃ H, H = s.heap := ⟨_, rfl⟩
  obtain ⟨locs, hlo⟩ : ∃ q : List Loc, q = [] := ⟨_, rfl⟩
  have hP : va_P (dC, dI) vwCl (cw cI cJ cG cZ a fi fl ai al) H := by rw [hH]; exact hP
  have hS : va_S A s.heap H locs := by rw [hH, hlo]; exact hS
  have key : W p l e (headSpec ws_SS_after ({ frames := 3, cells := 0, slots := 0, locals := 67 })).room s m ([.ref (a 0), .int p0, .int p1] : List Value).toArray below meth c H locs 0 0 (MQ below (va_Qi (fun r (u : zw_Z) => (zw_k_air fi fl al K) r u.1 u.2.1 u.2.2.1 u.2.2.2) (fun u t => zw_E (dC, dI) vwCl [(cI, .int), (cJ, .long), (cG, .array .int), (cZ, .boolean)] A (cw cI cJ cG cZ a u.1 u.2.1 u.2.2.1 u.2.2.2) t) A) ([.ref (a 0), .int p0, .int p1] : List Value).toArray s 0 0 A) (F0 m 0 ls []) := by
    refine lv_aload_n hx hb d_SS_after_0 rfl (lv_at hl 0 rfl) ?_
    refine va_get (D := (dC, dI)) (ci := 0) (v := .ref (a 19)) (C := R_SS) (T := T_SS) (N := 9) hx hb ht in_SS hown hK hP 0 rfl rfl 0 (by decide) (ht _ kw_242) (fun _ h9 => h9) rfl d_SS_after_1 ?_
    refine lv_iload_n hx hb d_SS_after_4 rfl (lv_at hl 1 rfl) ?_
    refine vp_callSi (va_Run.run (va_runV (As := [.int p0]) (rest := []) ⟨hx, hb, hml, hown, hts⟩ (c_Gi_hasPart l dC dI cI cJ cG cZ a fi fl ai al p0 _ hw) (cwV 1 hts (zw_goodV kw_274 kw_275 kw_276 kw_5 kw_277) rfl rfl rfl hd_Gi_hasPart ⟨Nat.le_of_ble_eq_true rfl, Nat.le_of_ble_eq_true rfl⟩) (zw_preV (ci := 2) (q0 := 19) hK hN hP rfl rfl) rfl rfl hl.1 rfl (lv_room (Nat.le_of_ble_eq_true rfl)) d_SS_after_5 ⟨Nat.le_of_ble_eq_true rfl, Nat.le_of_ble_eq_true rfl⟩)) (fun r5 hw => ?_)
    refine lv_if_eq (tgt := 39) hx hb d_SS_after_8 (by decide) (fun c8 => ?_) (fun c8 => ?_)
    · have hw := zw_ite_t c8 hw
      refine lv_iconst (v := (0 : Int32)) hx hb d_SS_after_39 (by decide) ?_
      exact W.zret (v := (0 : Int32)) (ty := .boolean) hx hb hr rfl (fun t ht hW => ⟨⟨(0 : Int32), (fi, fl, ai, al), rfl, ⟨rfl, rfl, rfl, hw⟩, by rw [ht]; exact hP, va_K.moved hW.alike hK, hD⟩, hS.F ht⟩) hS.2.2 d_SS_after_40
    · have hw := zw_ite_f c8 hw
      refine lv_aload_n hx hb d_SS_after_11 rfl (lv_at hl 0 rfl) ?_
      refine va_get (D := (dC, dI)) (ci := 0) (v := .ref (a 19)) (C := R_SS) (T := T_SS) (N := 9) hx hb ht in_SS hown hK hP 0 rfl rfl 0 (by decide) (ht _ kw_242) (fun _ h9 => h9) rfl d_SS_after_12 ?_
      refine lv_iload_n hx hb d_SS_after_15 rfl (lv_at hl 2 rfl) ?_
      refine vp_callSi (va_Run.run (va_runV (As := [.int p1]) (rest := []) ⟨hx, hb, hml, hown, hts⟩ (c_Gi_hasPart l dC dI cI cJ cG cZ a fi fl ai al p1 _ hw) (cwV 1 hts (zw_goodV kw_274 kw_275 kw_276 kw_5 kw_277) rfl rfl rfl hd_Gi_hasPart ⟨Nat.le_of_ble_eq_true rfl, Nat.le_of_ble_eq_true rfl⟩) (zw_preV (ci := 2) (q0 := 19) hK hN hP rfl rfl) rfl rfl hl.1 rfl (lv_room (Nat.le_of_ble_eq_true rfl)) d_SS_after_16 ⟨Nat.le_of_ble_eq_true rfl, Nat.le_of_ble_eq_true rfl⟩)) (fun r16 hw => ?_)
      refine lv_if_eq (tgt := 39) hx hb d_SS_after_19 (by decide) (fun c19 => ?_) (fun c19 => ?_)
      · have hw := zw_ite_t c19 hw
        refine lv_iconst (v := (0 : Int32)) hx hb d_SS_after_39 (by decide) ?_
        exact W.zret (v := (0 : Int32)) (ty := .boolean) hx hb hr rfl (fun t ht hW => ⟨⟨(0 : Int32), (fi, fl, ai, al), rfl, ⟨rfl, rfl, rfl, hw⟩, by rw [ht]; exact hP, va_K.moved hW.alike hK, hD⟩, hS.F ht⟩) hS.2.2 d_SS_after_40
      · have hw := zw_ite_f c19 hw
        refine lv_iload_n hx hb d_SS_after_22 rfl (lv_at hl 1 rfl) ?_
        refine lv_iload_n hx hb d_SS_after_23 rfl (lv_at hl 2 rfl) ?_
        refine lv_icmp_eq (tgt := 39) hx hb d_SS_after_24 (by decide) (fun c24 => ?_) (fun c24 => ?_)
        · have hw := zw_ite_t c24 hw
          refine lv_iconst (v := (0 : Int32)) hx hb d_SS_after_39 (by decide) ?_
          exact W.zret (v := (0 : Int32)) (ty := .boolean) hx hb hr rfl (fun t ht hW => ⟨⟨(0 : Int32), (fi, fl, ai, al), rfl, ⟨rfl, rfl, rfl, hw⟩, by rw [ht]; exact hP, va_K.moved hW.alike hK, hD⟩, hS.F ht⟩) hS.2.2 d_SS_after_40
        · have hw := zw_ite_f c24 hw
          refine lv_aload_n hx hb d_SS_after_27 rfl (lv_at hl 0 rfl) ?_
          refine va_get (D := (dC, dI)) (ci := 0) (v := .ref (a 19)) (C := R_SS) (T := T_SS) (N := 9) hx hb ht in_SS hown hK hP 0 rfl rfl 0 (by decide) (ht _ kw_242) (fun _ h9 => h9) rfl d_SS_after_28 ?_
          refine lv_iload_n hx hb d_SS_after_31 rfl (lv_at hl 1 rfl) ?_
          refine lv_iload_n hx hb d_SS_after_32 rfl (lv_at hl 2 rfl) ?_
          refine vp_callSi (va_Run.run (va_runV (As := [.int p0, .int p1]) (rest := []) ⟨hx, hb, hml, hown, hts⟩ (c_Gi_mustFollow l dC dI cI cJ cG cZ a fi fl ai al p0 p1 _ hw) (cwV 2 hts (zw_goodV kw_315 kw_316 kw_317 kw_5 kw_318) rfl rfl rfl hd_Gi_mustFollow ⟨Nat.le_of_ble_eq_true rfl, Nat.le_of_ble_eq_true rfl⟩) (zw_preV (ci := 2) (q0 := 19) hK hN hP rfl rfl) rfl rfl hl.1 rfl (lv_room (Nat.le_of_ble_eq_true rfl)) d_SS_after_33 ⟨Nat.le_of_ble_eq_true rfl, Nat.le_of_ble_eq_true rfl⟩)) (fun r33 hw => ?_)
          refine lv_if_eq (tgt := 41) hx hb d_SS_after_36 (by decide) (fun c36 => ?_) (fun c36 => ?_)
          · have hw := zw_ite_t c36 hw
            refine lv_aload_n hx hb d_SS_after_41 rfl (lv_at hl 0 rfl) ?_
            refine va_get (D := (dC, dI)) (ci := 0) (v := .ref (a 4)) (C := R_SS) (T := T_SS) (N := 9) hx hb ht in_SS hown hK hP 0 rfl rfl 2 (by decide) (ht _ kw_244) (fun _ h9 => h9) rfl d_SS_after_42 ?_
            refine lv_iload_n hx hb d_SS_after_45 rfl (lv_at hl 1 rfl) ?_
            refine vp_callSi (va_Run.run (va_runV (As := [.int p0]) (rest := []) ⟨hx, hb, hml, hown, hts⟩ (c_Pl_placeOf l dC dI cI cJ cG cZ a fi fl ai al p0 _ hw) (cwV 1 hts (zw_goodV kw_322 kw_323 kw_324 kw_3 kw_325) rfl rfl rfl hd_Pl_placeOf ⟨Nat.le_of_ble_eq_true rfl, Nat.le_of_ble_eq_true rfl⟩) (zw_preV (ci := 3) (q0 := 4) hK hN hP rfl rfl) rfl rfl hl.1 rfl (lv_room (Nat.le_of_ble_eq_true rfl)) d_SS_after_46 ⟨Nat.le_of_ble_eq_true rfl, Nat.le_of_ble_eq_true rfl⟩)) (fun r46 hw => ?_)
            refine lv_istore_n (lv' := [(3, .int r46), (0, .ref (a 0)), (1, .int p0), (2, .int p1)]) hx hb d_SS_after_49 rfl hl (by decide) rfl (fun ls hl => ?_)
            refine lv_aload_n hx hb d_SS_after_50 rfl (lv_at hl 1 rfl) ?_
            refine va_get (D := (dC, dI)) (ci := 0) (v := .ref (a 4)) (C := R_SS) (T := T_SS) (N := 9) hx hb ht in_SS hown hK hP 0 rfl rfl 2 (by decide) (ht _ kw_244) (fun _ h9 => h9) rfl d_SS_after_51 ?_
            refine lv_iload_n hx hb d_SS_after_54 rfl (lv_at hl 3 rfl) ?_
            refine vp_callSi (va_Run.run (va_runV (As := [.int p1]) (rest := []) ⟨hx, hb, hml, hown, hts⟩ (c_Pl_placeOf l dC dI cI cJ cG cZ a fi fl ai al p1 _ hw) (cwV 1 hts (zw_goodV kw_322 kw_323 kw_324 kw_3 kw_325) rfl rfl rfl hd_Pl_placeOf ⟨Nat.le_of_ble_eq_true rfl, Nat.le_of_ble_eq_true rfl⟩) (zw_preV (ci := 3) (q0 := 4) hK hN hP rfl rfl) rfl rfl hl.1 rfl (lv_room (Nat.le_of_ble_eq_true rfl)) d_SS_after_55 ⟨Nat.le_of_ble_eq_true rfl, Nat.le_of_ble_eq_true rfl⟩)) (fun r55 hw => ?_)
            refine lv_istore (lv' := [(4, .int r55), (3, .int r46), (0, .ref (a 0)), (1, .int p0), (2, .int p1)]) hx hb d_SS_after_58 hl (by decide) rfl (fun ls hl => ?_)
            refine lv_iload hx hb d_SS_after_60 (lv_at hl 0 rfl) ?_
            refine zw_jn0_i (P := ∀ (H : Heap) (locs : List Loc) (ls : Array Slot), va_P (dC, dI) vwCl (cw cI cJ cG cZ a fi fl ai al) H → va_D A (cw cI cJ cG cZ a fi fl ai al) → va_S A s.heap H locs → lv_has ls 5 [(0, .ref (a 0)), (1, .int p0), (2, .int p1)] → W p l e (headSpec ws_SS_after ({ frames := 3, cells := 0, slots := 0, locals := 67 })).room s m ([.ref (a 0), .int p0, .int p1] : List Value).toArray below meth c H locs 0 0 (MQ below (va_Qi (fun r (u : zw_Z) => (zw_k_air fi fl al K) r u.1 u.2.1 u.2.2.1 u.2.2.2) (fun u t => zw_E (dC, dI) vwCl [(cI, .int), (cJ, .long), (cG, .array .int), (cZ, .boolean)] A (cw cI cJ cG cZ a u.1 u.2.1 u.2.2.1 u.2.2.2) t) A) ([.ref (a 0), .int p0, .int p1] : List Value).toArray s 0 0 A) (F0 m 77 ls [])) hw (fun hw H locs ls hP hD hS hl => ?_) (fun J77 hj77 hw => ?_)
            · refine lv_aload_n hx hb d_SS_after_77 rfl (lv_at hl 0 rfl) ?_
              refine va_get (D := (dC, dI)) (ci := 0) (v := .ref (a 19)) (C := R_SS) (T := T_SS) (N := 9) hx hb ht in_SS hown hK hP 0 rfl rfl 0 (by decide) (ht _ kw_242) (fun _ h9 => h9) rfl d_SS_after_78 ?_
              refine lv_iload_n hx hb d_SS_after_81 rfl (lv_at hl 1 rfl) ?_
              refine lv_iload_n hx hb d_SS_after_82 rfl (lv_at hl 2 rfl) ?_
              refine zw_cv (va_runV (As := [.int p0, .int p1]) (rest := []) ⟨hx, hb, hml, hown, hts⟩ (c_Gi_follow l dC dI cI cJ cG cZ a H.size fi fl ai al p0 p1 _ hw) (cwV 2 hts (zw_goodV kw_326 kw_327 kw_328 kw_5 kw_329) rfl rfl rfl hd_Gi_follow ⟨Nat.le_of_ble_eq_true rfl, Nat.le_of_ble_eq_true rfl⟩) (zw_preVw (ci := 2) (q0 := 19) hK hN hP hD rfl rfl) rfl rfl hl.1 rfl (lv_room (Nat.le_of_ble_eq_true rfl)) d_SS_after_83 ⟨Nat.le_of_ble_eq_true rfl, Nat.le_of_ble_eq_true rfl⟩) hD hS hA (fun fi_83 fl_83 ai_83 al_83 H locs hw hP hD hS => ?_)
              obtain ⟨rfl, rfl, rfl, hw⟩ := hw
              refine lv_iconst (v := (1 : Int32)) hx hb d_SS_after_86 (by decide) ?_
              exact W.zret (v := (1 : Int32)) (ty := .boolean) hx hb hr rfl (fun t ht hW => ⟨⟨(1 : Int32), (fi, fl, ai_83, al), rfl, ⟨rfl, rfl, rfl, hw⟩, by rw [ht]; exact hP, va_K.moved hW.alike hK, hD⟩, hS.F ht⟩) hS.2.2 d_SS_after_87
            · refine lv_if_lt (tgt := 77) hx hb d_SS_after_62 (by decide) (fun c62 => ?_) (fun c62 => ?_)
              · have hw := zw_ite_t c62 hw
                exact (hj77  hw) H locs ls hP hD hS (lv_sub hl [2, 3, 4] rfl)
              · have hw := zw_ite_f c62 hw
                refine lv_iload_n hx hb d_SS_after_65 rfl (lv_at hl 1 rfl) ?_
                refine lv_if_lt (tgt := 75) hx hb d_SS_after_66 (by decide) (fun c66 => ?_) (fun c66 => ?_)
                · have hw := zw_ite_t c66 hw
                  refine lv_iconst (v := (0 : Int32)) hx hb d_SS_after_75 (by decide) ?_
                  exact W.zret (v := (0 : Int32)) (ty := .boolean) hx hb hr rfl (fun t ht hW => ⟨⟨(0 : Int32), (fi, fl, ai, al), rfl, ⟨rfl, rfl, rfl, hw⟩, by rw [ht]; exact hP, va_K.moved hW.alike hK, hD⟩, hS.F ht⟩) hS.2.2 d_SS_after_76
                · have hw := zw_ite_f c66 hw
                  refine lv_iload_n hx hb d_SS_after_69 rfl (lv_at hl 1 rfl) ?_
                  refine lv_iload hx hb d_SS_after_70 (lv_at hl 0 rfl) ?_
                  refine lv_icmp_le (tgt := 77) hx hb d_SS_after_72 (by decide) (fun c72 => ?_) (fun c72 => ?_)
                  · have hw := zw_ite_t c72 hw
                    exact (hj77  hw) H locs ls hP hD hS (lv_sub hl [2, 3, 4] rfl)
                  · have hw := zw_ite_f c72 hw
                    refine lv_iconst (v := (0 : Int32)) hx hb d_SS_after_75 (by decide) ?_
                    exact W.zret (v := (0 : Int32)) (ty := .boolean) hx hb hr rfl (fun t ht hW => ⟨⟨(0 : Int32), (fi, fl, ai, al), rfl, ⟨rfl, rfl, rfl, hw⟩, by rw [ht]; exact hP, va_K.moved hW.alike hK, hD⟩, hS.F ht⟩) hS.2.2 d_SS_after_76
          · have hw := zw_ite_f c36 hw
            refine lv_iconst (v := (0 : Int32)) hx hb d_SS_after_39 (by decide) ?_
            exact W.zret (v := (0 : Int32)) (ty := .boolean) hx hb hr rfl (fun t ht hW => ⟨⟨(0 : Int32), (fi, fl, ai, al), rfl, ⟨rfl, rfl, rfl, hw⟩, by rw [ht]; exact hP, va_K.moved hW.alike hK, hD⟩, hS.F ht⟩) hS.2.2 d_SS_after_40
  rw [hH, hlo] at key
  exact key
def Pl_lastDay_w (fi : Nat → Int32) (fl : Nat → Int64) (ai : Nat → Nat → Int32) (al : Nat → Nat → Int64) (K : Int32 → Prop) : Prop :=
  if (fi 2) ≤ 0 then (
    K (0 : Int32))
  else (
    vp_in ((fi 2) - (1 : Int32)) 12 ∧ (
    K (ai 5 ((fi 2) - (1 : Int32)).toNatClampNeg)))
theorem d_Pl_lastDay_0 : decode b_Pl_lastDay 0 = .ok (.aload_n 0, 1) := by decide +kernel
theorem d_Pl_lastDay_1 : decode b_Pl_lastDay 1 = .ok (.getfield 37, 3) := by decide +kernel
theorem d_Pl_lastDay_4 : decode b_Pl_lastDay 4 = .ok (.ifCond .le (17), 3) := by decide +kernel
theorem d_Pl_lastDay_7 : decode b_Pl_lastDay 7 = .ok (.aload_n 0, 1) := by decide +kernel
theorem d_Pl_lastDay_8 : decode b_Pl_lastDay 8 = .ok (.getfield 9, 3) := by decide +kernel
theorem d_Pl_lastDay_11 : decode b_Pl_lastDay 11 = .ok (.aload_n 0, 1) := by decide +kernel
theorem d_Pl_lastDay_12 : decode b_Pl_lastDay 12 = .ok (.getfield 37, 3) := by decide +kernel
theorem d_Pl_lastDay_15 : decode b_Pl_lastDay 15 = .ok (.iconst 1, 1) := by decide +kernel
theorem d_Pl_lastDay_16 : decode b_Pl_lastDay 16 = .ok (.isub, 1) := by decide +kernel
theorem d_Pl_lastDay_17 : decode b_Pl_lastDay 17 = .ok (.iaload, 1) := by decide +kernel
theorem d_Pl_lastDay_18 : decode b_Pl_lastDay 18 = .ok (.goto (4), 3) := by decide +kernel
theorem d_Pl_lastDay_21 : decode b_Pl_lastDay 21 = .ok (.iconst 0, 1) := by decide +kernel
theorem d_Pl_lastDay_22 : decode b_Pl_lastDay 22 = .ok (.ireturn, 1) := by decide +kernel
set_option maxHeartbeats 4000000 in
set_option maxRecDepth 100000 in
theorem c_Pl_lastDay (l : Launch) (dC : Nat → ClassId) (dI : Nat → Nat → Nat) (cI cJ cG cZ : ClassId) (a : Nat → Nat) (fi : Nat → Int32) (fl : Nat → Int64) (ai : Nat → Nat → Int32) (al : Nat → Nat → Int64) (K : Int32 → Prop) (hw : Pl_lastDay_w fi fl ai al K) : Met l y_Pl_lastDay ws_Pl_lastDay ({ frames := 0, cells := 0, slots := 0, locals := 0 }) (va_Pc [.ref (a 4)] (zw_B (dC, dI) vwCl [(cI, .int), (cJ, .long), (cG, .array .int), (cZ, .boolean)] (cw cI cJ cG cZ a fi fl ai al))) (vp_Si K) 0 0 (fun _ => False) := by
  refine Met.ofW (cc := b_Pl_lastDay) (maxL := 1) (ret := (Option.some FieldType.int)) (by decide) rfl ?_
  intro p e s m args below meth c s₁ B hml hv
  obtain ⟨rfl, hP, hK, hN⟩ := hv
  have hx := B.exec
  have hb := B.bytes
  have hr := B.returns
  have hts := atoms_spec (ws := ws_Pl_lastDay) B.pre
  have ht : ∀ w ∈ zw_tbl, w.before _ s = true := fun w h => hts w (List.mem_cons_of_mem _ h)
  have hown : s.vm.findClass R_Pl = some m.cls := findClass_of_methodNamed B.named
  have hlocks := B.notSynchronized
  have hl := lv_entry ([.ref (a 4)] : List Value) (n := 1) (Nat.le_of_ble_eq_true rfl)
  rw [lg_entry_eq]
  generalize (lg_sl ([.ref (a 4)] : List Value) ++ List.replicate (1 - (lg_sl ([.ref (a 4)] : List Value)).length) Slot.unset).toArray = ls at hl ⊢
  have hl : lv_has ls 1 [(0, .ref (a 4))] := hl
  unfold Pl_lastDay_w at hw
  refine lv_aload_n hx hb d_Pl_lastDay_0 rfl (lv_at hl 0 rfl) ?_
  refine va_get (D := (dC, dI)) (ci := 3) (v := .int (fi 2)) (C := R_Pl) (T := T_Pl) (N := 11) hx hb ht in_Pl hown hK hP 4 rfl rfl 7 (by decide) (ht _ kw_59) (fun _ h9 => h9) rfl d_Pl_lastDay_1 ?_
  refine lv_if_le (tgt := 21) hx hb d_Pl_lastDay_4 (by decide) (fun c4 => ?_) (fun c4 => ?_)
  · have hw := zw_ite_t c4 hw
    refine lv_iconst (v := (0 : Int32)) hx hb d_Pl_lastDay_21 (by decide) ?_
    exact W.iret (v := (0 : Int32)) hx hb hr (fun t ht hW => ⟨(0 : Int32), rfl, hw, ht⟩) t_nil d_Pl_lastDay_22
  · have hw := zw_ite_f c4 hw
    refine lv_aload_n hx hb d_Pl_lastDay_7 rfl (lv_at hl 0 rfl) ?_
    refine va_get (D := (dC, dI)) (ci := 3) (v := .ref (a 5)) (C := R_Pl) (T := T_Pl) (N := 11) hx hb ht in_Pl hown hK hP 4 rfl rfl 0 (by decide) (ht _ kw_43) (fun _ h9 => h9) rfl d_Pl_lastDay_8 ?_
    refine lv_aload_n hx hb d_Pl_lastDay_11 rfl (lv_at hl 0 rfl) ?_
    refine va_get (D := (dC, dI)) (ci := 3) (v := .int (fi 2)) (C := R_Pl) (T := T_Pl) (N := 11) hx hb ht in_Pl hown hK hP 4 rfl rfl 7 (by decide) (ht _ kw_59) (fun _ h9 => h9) rfl d_Pl_lastDay_12 ?_
    refine lv_iconst (v := (1 : Int32)) hx hb d_Pl_lastDay_15 (by decide) ?_
    refine lv_isub hx hb d_Pl_lastDay_16 ?_
    obtain ⟨h17, hw⟩ := hw
    refine va_iald (f := ai 5) hx hb hK hP 5 0 rfl rfl h17 d_Pl_lastDay_17 ?_
    refine lv_goto (tgt := 22) hx hb d_Pl_lastDay_18 (by decide) ?_
    exact W.iret (v := (ai 5 ((fi 2) - (1 : Int32)).toNatClampNeg)) hx hb hr (fun t ht hW => ⟨(ai 5 ((fi 2) - (1 : Int32)).toNatClampNeg), rfl, hw, ht⟩) t_nil d_Pl_lastDay_22
def Pl_takesStage_w (fi : Nat → Int32) (fl : Nat → Int64) (ai : Nat → Nat → Int32) (al : Nat → Nat → Int64) (p0 : Int32) (K : Int32 → Prop) : Prop :=
  if (12 : Int32) ≤ (fi 2) then (
    K (0 : Int32))
  else (
    SS_within_w p0 (0 : Int32) (20000 : Int32) (fun (r14 : Int32) =>
    if r14 = 0 then (
      K (0 : Int32))
    else (
      zw_jn0 (
      K (1 : Int32)) (fun J35 =>
      if (fi 2) = 0 then (
        J35)
      else (
        Pl_lastDay_w fi fl ai al  (fun (r29 : Int32) =>
        if p0 ≤ r29 then (
          K (0 : Int32))
        else (
          J35)))))))
theorem d_Pl_takesStage_0 : decode b_Pl_takesStage 0 = .ok (.aload_n 0, 1) := by decide +kernel
theorem d_Pl_takesStage_1 : decode b_Pl_takesStage 1 = .ok (.getfield 37, 3) := by decide +kernel
theorem d_Pl_takesStage_4 : decode b_Pl_takesStage 4 = .ok (.bipush (12), 2) := by decide +kernel
theorem d_Pl_takesStage_6 : decode b_Pl_takesStage 6 = .ok (.if_icmp .ge (33), 3) := by decide +kernel
theorem d_Pl_takesStage_9 : decode b_Pl_takesStage 9 = .ok (.iload_n 1, 1) := by decide +kernel
theorem d_Pl_takesStage_10 : decode b_Pl_takesStage 10 = .ok (.iconst 0, 1) := by decide +kernel
theorem d_Pl_takesStage_11 : decode b_Pl_takesStage 11 = .ok (.sipush (20000), 3) := by decide +kernel
theorem d_Pl_takesStage_14 : decode b_Pl_takesStage 14 = .ok (.invokestatic 40, 3) := by decide +kernel
theorem d_Pl_takesStage_17 : decode b_Pl_takesStage 17 = .ok (.ifCond .eq (22), 3) := by decide +kernel
theorem d_Pl_takesStage_20 : decode b_Pl_takesStage 20 = .ok (.aload_n 0, 1) := by decide +kernel
theorem d_Pl_takesStage_21 : decode b_Pl_takesStage 21 = .ok (.getfield 37, 3) := by decide +kernel
theorem d_Pl_takesStage_24 : decode b_Pl_takesStage 24 = .ok (.ifCond .eq (11), 3) := by decide +kernel
theorem d_Pl_takesStage_27 : decode b_Pl_takesStage 27 = .ok (.iload_n 1, 1) := by decide +kernel
theorem d_Pl_takesStage_28 : decode b_Pl_takesStage 28 = .ok (.aload_n 0, 1) := by decide +kernel
theorem d_Pl_takesStage_29 : decode b_Pl_takesStage 29 = .ok (.invokevirtual 47, 3) := by decide +kernel
theorem d_Pl_takesStage_32 : decode b_Pl_takesStage 32 = .ok (.if_icmp .le (7), 3) := by decide +kernel
theorem d_Pl_takesStage_35 : decode b_Pl_takesStage 35 = .ok (.iconst 1, 1) := by decide +kernel
theorem d_Pl_takesStage_36 : decode b_Pl_takesStage 36 = .ok (.goto (4), 3) := by decide +kernel
theorem d_Pl_takesStage_39 : decode b_Pl_takesStage 39 = .ok (.iconst 0, 1) := by decide +kernel
theorem d_Pl_takesStage_40 : decode b_Pl_takesStage 40 = .ok (.ireturn, 1) := by decide +kernel
set_option maxHeartbeats 4000000 in
set_option maxRecDepth 100000 in
theorem c_Pl_takesStage (l : Launch) (dC : Nat → ClassId) (dI : Nat → Nat → Nat) (cI cJ cG cZ : ClassId) (a : Nat → Nat) (fi : Nat → Int32) (fl : Nat → Int64) (ai : Nat → Nat → Int32) (al : Nat → Nat → Int64) (p0 : Int32) (K : Int32 → Prop) (hw : Pl_takesStage_w fi fl ai al p0 K) : Met l y_Pl_takesStage ws_Pl_takesStage ({ frames := 1, cells := 0, slots := 0, locals := 22 }) (va_Pc [.ref (a 4), .int p0] (zw_B (dC, dI) vwCl [(cI, .int), (cJ, .long), (cG, .array .int), (cZ, .boolean)] (cw cI cJ cG cZ a fi fl ai al))) (vp_Si K) 0 0 (fun _ => False) := by
  refine Met.ofW (cc := b_Pl_takesStage) (maxL := 2) (ret := (Option.some FieldType.boolean)) (by decide) rfl ?_
  intro p e s m args below meth c s₁ B hml hv
  obtain ⟨rfl, hP, hK, hN⟩ := hv
  have hx := B.exec
  have hb := B.bytes
  have hr := B.returns
  have hts := atoms_spec (ws := ws_Pl_takesStage) B.pre
  have ht : ∀ w ∈ zw_tbl, w.before _ s = true := fun w h => hts w (List.mem_cons_of_mem _ h)
  have hown : s.vm.findClass R_Pl = some m.cls := findClass_of_methodNamed B.named
  have hlocks := B.notSynchronized
  have hl := lv_entry ([.ref (a 4), .int p0] : List Value) (n := 2) (Nat.le_of_ble_eq_true rfl)
  rw [lg_entry_eq]
  generalize (lg_sl ([.ref (a 4), .int p0] : List Value) ++ List.replicate (2 - (lg_sl ([.ref (a 4), .int p0] : List Value)).length) Slot.unset).toArray = ls at hl ⊢
  have hl : lv_has ls 2 [(0, .ref (a 4)), (1, .int p0)] := hl
  unfold Pl_takesStage_w at hw
  refine lv_aload_n hx hb d_Pl_takesStage_0 rfl (lv_at hl 0 rfl) ?_
  refine va_get (D := (dC, dI)) (ci := 3) (v := .int (fi 2)) (C := R_Pl) (T := T_Pl) (N := 11) hx hb ht in_Pl hown hK hP 4 rfl rfl 7 (by decide) (ht _ kw_59) (fun _ h9 => h9) rfl d_Pl_takesStage_1 ?_
  refine lv_bipush (v := (12 : Int32)) hx hb d_Pl_takesStage_4 (by decide) ?_
  refine lv_icmp_ge (tgt := 39) hx hb d_Pl_takesStage_6 (by decide) (fun c6 => ?_) (fun c6 => ?_)
  · have hw := zw_ite_t c6 hw
    refine lv_iconst (v := (0 : Int32)) hx hb d_Pl_takesStage_39 (by decide) ?_
    exact W.zret (v := (0 : Int32)) (ty := .boolean) hx hb hr rfl (fun t ht hW => ⟨(0 : Int32), rfl, hw, ht⟩) t_nil d_Pl_takesStage_40
  · have hw := zw_ite_f c6 hw
    refine lv_iload_n hx hb d_Pl_takesStage_9 rfl (lv_at hl 1 rfl) ?_
    refine lv_iconst (v := (0 : Int32)) hx hb d_Pl_takesStage_10 (by decide) ?_
    refine lv_sipush (v := (20000 : Int32)) hx hb d_Pl_takesStage_11 (by decide) ?_
    refine vp_callSi (va_Run.run (va_runSN (As := [.int p0, .int (0 : Int32), .int (20000 : Int32)]) (rest := []) ⟨hx, hb, hml, hown, hts⟩ (c_SS_within l p0 (0 : Int32) (20000 : Int32) _ hw) ⟨va_cnB 3 hts (zw_goodC kw_280) rfl rfl rfl (hN _ nw_339) (ht _ kw_1) hd_SS_within.2 ⟨Nat.le_of_ble_eq_true rfl, Nat.le_of_ble_eq_true rfl⟩, ht _ kw_279, trivial⟩ zw_preS0 rfl rfl hl.1 rfl (lv_room (Nat.le_of_ble_eq_true rfl)) d_Pl_takesStage_14 ⟨Nat.le_of_ble_eq_true rfl, Nat.le_of_ble_eq_true rfl⟩)) (fun r14 hw => ?_)
    refine lv_if_eq (tgt := 39) hx hb d_Pl_takesStage_17 (by decide) (fun c17 => ?_) (fun c17 => ?_)
    · have hw := zw_ite_t c17 hw
      refine lv_iconst (v := (0 : Int32)) hx hb d_Pl_takesStage_39 (by decide) ?_
      exact W.zret (v := (0 : Int32)) (ty := .boolean) hx hb hr rfl (fun t ht hW => ⟨(0 : Int32), rfl, hw, ht⟩) t_nil d_Pl_takesStage_40
    · have hw := zw_ite_f c17 hw
      refine lv_aload_n hx hb d_Pl_takesStage_20 rfl (lv_at hl 0 rfl) ?_
      refine va_get (D := (dC, dI)) (ci := 3) (v := .int (fi 2)) (C := R_Pl) (T := T_Pl) (N := 11) hx hb ht in_Pl hown hK hP 4 rfl rfl 7 (by decide) (ht _ kw_59) (fun _ h9 => h9) rfl d_Pl_takesStage_21 ?_
      refine zw_jn0_i (P := ∀ (ls : Array Slot), lv_has ls 2 [] → W p l e (headSpec ws_Pl_takesStage ({ frames := 1, cells := 0, slots := 0, locals := 22 })).room s m ([.ref (a 4), .int p0] : List Value).toArray below meth c s.heap [] 0 0 (MQ below (vp_Si K) ([.ref (a 4), .int p0] : List Value).toArray s 0 0 (fun _ => False)) (F0 m 35 ls [])) hw (fun hw ls hl => ?_) (fun J35 hj35 hw => ?_)
      · refine lv_iconst (v := (1 : Int32)) hx hb d_Pl_takesStage_35 (by decide) ?_
        refine lv_goto (tgt := 40) hx hb d_Pl_takesStage_36 (by decide) ?_
        exact W.zret (v := (1 : Int32)) (ty := .boolean) hx hb hr rfl (fun t ht hW => ⟨(1 : Int32), rfl, hw, ht⟩) t_nil d_Pl_takesStage_40
      · refine lv_if_eq (tgt := 35) hx hb d_Pl_takesStage_24 (by decide) (fun c24 => ?_) (fun c24 => ?_)
        · have hw := zw_ite_t c24 hw
          exact (hj35  hw) ls (lv_sub hl [] rfl)
        · have hw := zw_ite_f c24 hw
          refine lv_iload_n hx hb d_Pl_takesStage_27 rfl (lv_at hl 1 rfl) ?_
          refine lv_aload_n hx hb d_Pl_takesStage_28 rfl (lv_at hl 0 rfl) ?_
          refine vp_callSi (va_Run.run (va_runV (As := []) (rest := [.int p0]) ⟨hx, hb, hml, hown, hts⟩ (c_Pl_lastDay l dC dI cI cJ cG cZ a fi fl ai al _ hw) (cwV 0 hts (zw_goodV kw_340 kw_341 kw_342 kw_3 kw_343) rfl rfl rfl hd_Pl_lastDay ⟨Nat.le_of_ble_eq_true rfl, Nat.le_of_ble_eq_true rfl⟩) (zw_preV (ci := 3) (q0 := 4) hK hN hP rfl rfl) rfl rfl hl.1 rfl (lv_room (Nat.le_of_ble_eq_true rfl)) d_Pl_takesStage_29 ⟨Nat.le_of_ble_eq_true rfl, Nat.le_of_ble_eq_true rfl⟩)) (fun r29 hw => ?_)
          refine lv_icmp_le (tgt := 39) hx hb d_Pl_takesStage_32 (by decide) (fun c32 => ?_) (fun c32 => ?_)
          · have hw := zw_ite_t c32 hw
            refine lv_iconst (v := (0 : Int32)) hx hb d_Pl_takesStage_39 (by decide) ?_
            exact W.zret (v := (0 : Int32)) (ty := .boolean) hx hb hr rfl (fun t ht hW => ⟨(0 : Int32), rfl, hw, ht⟩) t_nil d_Pl_takesStage_40
          · have hw := zw_ite_f c32 hw
            exact (hj35  hw) ls (lv_sub hl [] rfl)
def Pl_forgetPassedEnd_w (fi : Nat → Int32) (fl : Nat → Int64) (ai : Nat → Nat → Int32) (al : Nat → Nat → Int64) (K : (Nat → Int32) → Prop) : Prop :=
  Pl_lastDay_w fi fl ai al  (fun (r1 : Int32) =>
  if r1 ≤ (fi 5) then (
    K fi)
  else (
    zw_nm (va_up fi 5 (-1 : Int32)) (fun (fi_13 : Nat → Int32) =>
    K fi_13)))
theorem d_Pl_forgetPassedEnd_0 : decode b_Pl_forgetPassedEnd 0 = .ok (.aload_n 0, 1) := by decide +kernel
theorem d_Pl_forgetPassedEnd_1 : decode b_Pl_forgetPassedEnd 1 = .ok (.invokevirtual 47, 3) := by decide +kernel
theorem d_Pl_forgetPassedEnd_4 : decode b_Pl_forgetPassedEnd 4 = .ok (.aload_n 0, 1) := by decide +kernel
theorem d_Pl_forgetPassedEnd_5 : decode b_Pl_forgetPassedEnd 5 = .ok (.getfield 33, 3) := by decide +kernel
theorem d_Pl_forgetPassedEnd_8 : decode b_Pl_forgetPassedEnd 8 = .ok (.if_icmp .le (8), 3) := by decide +kernel
theorem d_Pl_forgetPassedEnd_11 : decode b_Pl_forgetPassedEnd 11 = .ok (.aload_n 0, 1) := by decide +kernel
theorem d_Pl_forgetPassedEnd_12 : decode b_Pl_forgetPassedEnd 12 = .ok (.iconst (-1), 1) := by decide +kernel
theorem d_Pl_forgetPassedEnd_13 : decode b_Pl_forgetPassedEnd 13 = .ok (.putfield 33, 3) := by decide +kernel
theorem d_Pl_forgetPassedEnd_16 : decode b_Pl_forgetPassedEnd 16 = .ok (.return_, 1) := by decide +kernel
set_option maxHeartbeats 4000000 in
set_option maxRecDepth 100000 in
theorem c_Pl_forgetPassedEnd (l : Launch) (dC : Nat → ClassId) (dI : Nat → Nat → Nat) (cI cJ cG cZ : ClassId) (a : Nat → Nat) (sz : Nat) (fi : Nat → Int32) (fl : Nat → Int64) (ai : Nat → Nat → Int32) (al : Nat → Nat → Int64) (K : (Nat → Int32) → Prop) (hw : Pl_forgetPassedEnd_w fi fl ai al K) : Met l y_Pl_forgetPassedEnd ws_Pl_forgetPassedEnd ({ frames := 1, cells := 0, slots := 0, locals := 20 }) (va_Pc [.ref (a 4)] (zw_Bw (dC, dI) vwCl [(cI, .int), (cJ, .long), (cG, .array .int), (cZ, .boolean)] (cw cI cJ cG cZ a fi fl ai al) sz)) (va_Qv (fun (u : zw_Z) => (zw_k_fiv fl ai al K) u.1 u.2.1 u.2.2.1 u.2.2.2) (fun u t => zw_E (dC, dI) vwCl [(cI, .int), (cJ, .long), (cG, .array .int), (cZ, .boolean)] (va_A (cw cI cJ cG cZ a fi fl ai al) sz) (cw cI cJ cG cZ a u.1 u.2.1 u.2.2.1 u.2.2.2) t) (va_A (cw cI cJ cG cZ a fi fl ai al) sz)) 0 0 (va_A (cw cI cJ cG cZ a fi fl ai al) sz) := by
  refine Met.ofW (cc := b_Pl_forgetPassedEnd) (maxL := 1) (ret := (Option.none : Option FieldType)) (by decide) rfl ?_
  intro p e s m args below meth c s₁ B hml hv
  obtain ⟨rfl, hsz, hP, hK, hD0, hN⟩ := hv
  have hx := B.exec
  have hb := B.bytes
  have hr := B.returns
  have hts := atoms_spec (ws := ws_Pl_forgetPassedEnd) B.pre
  have ht : ∀ w ∈ zw_tbl, w.before _ s = true := fun w h => hts w (List.mem_cons_of_mem _ h)
  have hown : s.vm.findClass R_Pl = some m.cls := findClass_of_methodNamed B.named
  have hlocks := B.notSynchronized
  subst hsz
  have hD := hD0.self (sz := s.heap.size)
  generalize hAe : va_A (cw cI cJ cG cZ a fi fl ai al) s.heap.size = A at hD ⊢
  have hA : ∀ q : Nat, s.heap.size ≤ q → A q := fun q h => by rw [← hAe]; exact Or.inr h
  have hS : va_S A s.heap s.heap [] := va_S.rf
  have hl := lv_entry ([.ref (a 4)] : List Value) (n := 1) (Nat.le_of_ble_eq_true rfl)
  rw [lg_entry_eq]
  generalize (lg_sl ([.ref (a 4)] : List Value) ++ List.replicate (1 - (lg_sl ([.ref (a 4)] : List Value)).length) Slot.unset).toArray = ls at hl ⊢
  have hl : lv_has ls 1 [(0, .ref (a 4))] := hl
  unfold Pl_forgetPassedEnd_w at hw
  obtain ⟨H, hH⟩ : ∃ H, H = s.heap := ⟨_, rfl⟩
  obtain ⟨locs, hlo⟩ : ∃ q : List Loc, q = [] := ⟨_, rfl⟩
  have hP : va_P (dC, dI) vwCl (cw cI cJ cG cZ a fi fl ai al) H := by rw [hH]; exact hP
  have hS : va_S A s.heap H locs := by rw [hH, hlo]; exact hS
  have key : W p l e (headSpec ws_Pl_forgetPassedEnd ({ frames := 1, cells := 0, slots := 0, locals := 20 })).room s m ([.ref (a 4)] : List Value).toArray below meth c H locs 0 0 (MQ below (va_Qv (fun (u : zw_Z) => (zw_k_fiv fl ai al K) u.1 u.2.1 u.2.2.1 u.2.2.2) (fun u t => zw_E (dC, dI) vwCl [(cI, .int), (cJ, .long), (cG, .array .int), (cZ, .boolean)] A (cw cI cJ cG cZ a u.1 u.2.1 u.2.2.1 u.2.2.2) t) A) ([.ref (a 4)] : List Value).toArray s 0 0 A) (F0 m 0 ls []) := by
    refine lv_aload_n hx hb d_Pl_forgetPassedEnd_0 rfl (lv_at hl 0 rfl) ?_
    refine vp_callSi (va_Run.run (va_runV (As := []) (rest := []) ⟨hx, hb, hml, hown, hts⟩ (c_Pl_lastDay l dC dI cI cJ cG cZ a fi fl ai al _ hw) (cwV 0 hts (zw_goodV kw_340 kw_341 kw_342 kw_3 kw_343) rfl rfl rfl hd_Pl_lastDay ⟨Nat.le_of_ble_eq_true rfl, Nat.le_of_ble_eq_true rfl⟩) (zw_preV (ci := 3) (q0 := 4) hK hN hP rfl rfl) rfl rfl hl.1 rfl (lv_room (Nat.le_of_ble_eq_true rfl)) d_Pl_forgetPassedEnd_1 ⟨Nat.le_of_ble_eq_true rfl, Nat.le_of_ble_eq_true rfl⟩)) (fun r1 hw => ?_)
    refine lv_aload_n hx hb d_Pl_forgetPassedEnd_4 rfl (lv_at hl 0 rfl) ?_
    refine va_get (D := (dC, dI)) (ci := 3) (v := .int (fi 5)) (C := R_Pl) (T := T_Pl) (N := 11) hx hb ht in_Pl hown hK hP 4 rfl rfl 10 (by decide) (ht _ kw_70) (fun _ h9 => h9) rfl d_Pl_forgetPassedEnd_5 ?_
    refine lv_icmp_le (tgt := 16) hx hb d_Pl_forgetPassedEnd_8 (by decide) (fun c8 => ?_) (fun c8 => ?_)
    · have hw := zw_ite_t c8 hw
      exact W.vret hx hb hr (fun t ht hW => ⟨⟨(fi, fl, ai, al), rfl, ⟨rfl, rfl, rfl, hw⟩, by rw [ht]; exact hP, va_K.moved hW.alike hK, hD⟩, hS.F ht⟩) hS.2.2 d_Pl_forgetPassedEnd_16
    · have hw := zw_ite_f c8 hw
      refine lv_aload_n hx hb d_Pl_forgetPassedEnd_11 rfl (lv_at hl 0 rfl) ?_
      refine lv_iconst (v := (-1 : Int32)) hx hb d_Pl_forgetPassedEnd_12 (by decide) ?_
      refine va_put (D := (dC, dI)) (ci := 3) (v := .int (-1 : Int32)) (ty := .int) (C := R_Pl) (T := T_Pl) (N := 11) hx hb ht in_Pl t_Pl t_Pl_ok n_Pl hown hK hP hD hS 4 rfl rfl 10 (by decide) (ht _ kw_70) (fun _ h9 => h9) rfl (by decide +kernel) rfl rfl (Nat.le_of_ble_eq_true rfl) d_Pl_forgetPassedEnd_13 (fun H locs hP hD hS => ?_)
      have hP := cwpfi_5 hP
      have hD := cwdfi_5 hD
      obtain ⟨fi_13, efi_13⟩ : ∃ z, z = va_up fi 5 (-1 : Int32) := ⟨_, rfl⟩
      rw [← efi_13] at hP hD
      have hw := zw_nm_x efi_13 hw
      exact W.vret hx hb hr (fun t ht hW => ⟨⟨(fi_13, fl, ai, al), rfl, ⟨rfl, rfl, rfl, hw⟩, by rw [ht]; exact hP, va_K.moved hW.alike hK, hD⟩, hS.F ht⟩) hS.2.2 d_Pl_forgetPassedEnd_16
  rw [hH, hlo] at key
  exact key
def Pl_openStage_w (fi : Nat → Int32) (fl : Nat → Int64) (ai : Nat → Nat → Int32) (al : Nat → Nat → Int64) (p0 : Int32) (K : Int32 → (Nat → Int32) → (Nat → Nat → Int32) → Prop) : Prop :=
  vp_in (fi 2) 12 ∧ (zw_nm (va_up ai 5 (upd (ai 5) (fi 2).toNatClampNeg p0)) (fun (ai_9 : Nat → Nat → Int32) =>
  zw_nm (va_up fi 2 ((fi 2) + (1 : Int32))) (fun (fi_17 : Nat → Int32) =>
  Pl_forgetPassedEnd_w fi_17 fl ai_9 al  (fun (fi_21 : Nat → Int32) =>
  K ((fi_21 2) - (1 : Int32)) fi_21 ai_9))))
theorem d_Pl_openStage_0 : decode b_Pl_openStage 0 = .ok (.aload_n 0, 1) := by decide +kernel
theorem d_Pl_openStage_1 : decode b_Pl_openStage 1 = .ok (.getfield 9, 3) := by decide +kernel
theorem d_Pl_openStage_4 : decode b_Pl_openStage 4 = .ok (.aload_n 0, 1) := by decide +kernel
theorem d_Pl_openStage_5 : decode b_Pl_openStage 5 = .ok (.getfield 37, 3) := by decide +kernel
theorem d_Pl_openStage_8 : decode b_Pl_openStage 8 = .ok (.iload_n 1, 1) := by decide +kernel
theorem d_Pl_openStage_9 : decode b_Pl_openStage 9 = .ok (.iastore, 1) := by decide +kernel
theorem d_Pl_openStage_10 : decode b_Pl_openStage 10 = .ok (.aload_n 0, 1) := by decide +kernel
theorem d_Pl_openStage_11 : decode b_Pl_openStage 11 = .ok (.dup, 1) := by decide +kernel
theorem d_Pl_openStage_12 : decode b_Pl_openStage 12 = .ok (.getfield 37, 3) := by decide +kernel
theorem d_Pl_openStage_15 : decode b_Pl_openStage 15 = .ok (.iconst 1, 1) := by decide +kernel
theorem d_Pl_openStage_16 : decode b_Pl_openStage 16 = .ok (.iadd, 1) := by decide +kernel
theorem d_Pl_openStage_17 : decode b_Pl_openStage 17 = .ok (.putfield 37, 3) := by decide +kernel
theorem d_Pl_openStage_20 : decode b_Pl_openStage 20 = .ok (.aload_n 0, 1) := by decide +kernel
theorem d_Pl_openStage_21 : decode b_Pl_openStage 21 = .ok (.invokevirtual 57, 3) := by decide +kernel
theorem d_Pl_openStage_24 : decode b_Pl_openStage 24 = .ok (.aload_n 0, 1) := by decide +kernel
theorem d_Pl_openStage_25 : decode b_Pl_openStage 25 = .ok (.getfield 37, 3) := by decide +kernel
theorem d_Pl_openStage_28 : decode b_Pl_openStage 28 = .ok (.iconst 1, 1) := by decide +kernel
theorem d_Pl_openStage_29 : decode b_Pl_openStage 29 = .ok (.isub, 1) := by decide +kernel
theorem d_Pl_openStage_30 : decode b_Pl_openStage 30 = .ok (.ireturn, 1) := by decide +kernel
set_option maxHeartbeats 4000000 in
set_option maxRecDepth 100000 in
theorem c_Pl_openStage (l : Launch) (dC : Nat → ClassId) (dI : Nat → Nat → Nat) (cI cJ cG cZ : ClassId) (a : Nat → Nat) (sz : Nat) (fi : Nat → Int32) (fl : Nat → Int64) (ai : Nat → Nat → Int32) (al : Nat → Nat → Int64) (p0 : Int32) (K : Int32 → (Nat → Int32) → (Nat → Nat → Int32) → Prop) (hw : Pl_openStage_w fi fl ai al p0 K) : Met l y_Pl_openStage ws_Pl_openStage ({ frames := 2, cells := 0, slots := 0, locals := 40 }) (va_Pc [.ref (a 4), .int p0] (zw_Bw (dC, dI) vwCl [(cI, .int), (cJ, .long), (cG, .array .int), (cZ, .boolean)] (cw cI cJ cG cZ a fi fl ai al) sz)) (va_Qi (fun r (u : zw_Z) => (zw_k_fi_air fl al K) r u.1 u.2.1 u.2.2.1 u.2.2.2) (fun u t => zw_E (dC, dI) vwCl [(cI, .int), (cJ, .long), (cG, .array .int), (cZ, .boolean)] (va_A (cw cI cJ cG cZ a fi fl ai al) sz) (cw cI cJ cG cZ a u.1 u.2.1 u.2.2.1 u.2.2.2) t) (va_A (cw cI cJ cG cZ a fi fl ai al) sz)) 0 0 (va_A (cw cI cJ cG cZ a fi fl ai al) sz) := by
  refine Met.ofW (cc := b_Pl_openStage) (maxL := 2) (ret := (Option.some FieldType.int)) (by decide) rfl ?_
  intro p e s m args below meth c s₁ B hml hv
  obtain ⟨rfl, hsz, hP, hK, hD0, hN⟩ := hv
  have hx := B.exec
  have hb := B.bytes
  have hr := B.returns
  have hts := atoms_spec (ws := ws_Pl_openStage) B.pre
  have ht : ∀ w ∈ zw_tbl, w.before _ s = true := fun w h => hts w (List.mem_cons_of_mem _ h)
  have hown : s.vm.findClass R_Pl = some m.cls := findClass_of_methodNamed B.named
  have hlocks := B.notSynchronized
  subst hsz
  have hD := hD0.self (sz := s.heap.size)
  generalize hAe : va_A (cw cI cJ cG cZ a fi fl ai al) s.heap.size = A at hD ⊢
  have hA : ∀ q : Nat, s.heap.size ≤ q → A q := fun q h => by rw [← hAe]; exact Or.inr h
  have hS : va_S A s.heap s.heap [] := va_S.rf
  have hl := lv_entry ([.ref (a 4), .int p0] : List Value) (n := 2) (Nat.le_of_ble_eq_true rfl)
  rw [lg_entry_eq]
  generalize (lg_sl ([.ref (a 4), .int p0] : List Value) ++ List.replicate (2 - (lg_sl ([.ref (a 4), .int p0] : List Value)).length) Slot.unset).toArray = ls at hl ⊢
  have hl : lv_has ls 2 [(0, .ref (a 4)), (1, .int p0)] := hl
  unfold Pl_openStage_w at hw
  obtain ⟨H, hH⟩ : ∃ H, H = s.heap := ⟨_, rfl⟩
  obtain ⟨locs, hlo⟩ : ∃ q : List Loc, q = [] := ⟨_, rfl⟩
  have hP : va_P (dC, dI) vwCl (cw cI cJ cG cZ a fi fl ai al) H := by rw [hH]; exact hP
  have hS : va_S A s.heap H locs := by rw [hH, hlo]; exact hS
  have key : W p l e (headSpec ws_Pl_openStage ({ frames := 2, cells := 0, slots := 0, locals := 40 })).room s m ([.ref (a 4), .int p0] : List Value).toArray below meth c H locs 0 0 (MQ below (va_Qi (fun r (u : zw_Z) => (zw_k_fi_air fl al K) r u.1 u.2.1 u.2.2.1 u.2.2.2) (fun u t => zw_E (dC, dI) vwCl [(cI, .int), (cJ, .long), (cG, .array .int), (cZ, .boolean)] A (cw cI cJ cG cZ a u.1 u.2.1 u.2.2.1 u.2.2.2) t) A) ([.ref (a 4), .int p0] : List Value).toArray s 0 0 A) (F0 m 0 ls []) := by
    refine lv_aload_n hx hb d_Pl_openStage_0 rfl (lv_at hl 0 rfl) ?_
    refine va_get (D := (dC, dI)) (ci := 3) (v := .ref (a 5)) (C := R_Pl) (T := T_Pl) (N := 11) hx hb ht in_Pl hown hK hP 4 rfl rfl 0 (by decide) (ht _ kw_43) (fun _ h9 => h9) rfl d_Pl_openStage_1 ?_
    refine lv_aload_n hx hb d_Pl_openStage_4 rfl (lv_at hl 0 rfl) ?_
    refine va_get (D := (dC, dI)) (ci := 3) (v := .int (fi 2)) (C := R_Pl) (T := T_Pl) (N := 11) hx hb ht in_Pl hown hK hP 4 rfl rfl 7 (by decide) (ht _ kw_59) (fun _ h9 => h9) rfl d_Pl_openStage_5 ?_
    refine lv_iload_n hx hb d_Pl_openStage_8 rfl (lv_at hl 1 rfl) ?_
    obtain ⟨h9, hw⟩ := hw
    refine va_iast (f := ai 5) hx hb hK hP hD hS 5 0 rfl rfl h9 d_Pl_openStage_9 (fun H locs hP hD hS => ?_)
    have hP := cwpai_5 hP
    have hD := cwdai_5 hD
    obtain ⟨ai_9, eai_9⟩ : ∃ z, z = va_up ai 5 (upd (ai 5) (fi 2).toNatClampNeg p0) := ⟨_, rfl⟩
    rw [← eai_9] at hP hD
    have hw := zw_nm_x eai_9 hw
    refine lv_aload_n hx hb d_Pl_openStage_10 rfl (lv_at hl 0 rfl) ?_
    refine lv_dup hx hb d_Pl_openStage_11 rfl ?_
    refine va_get (D := (dC, dI)) (ci := 3) (v := .int (fi 2)) (C := R_Pl) (T := T_Pl) (N := 11) hx hb ht in_Pl hown hK hP 4 rfl rfl 7 (by decide) (ht _ kw_59) (fun _ h9 => h9) rfl d_Pl_openStage_12 ?_
    refine lv_iconst (v := (1 : Int32)) hx hb d_Pl_openStage_15 (by decide) ?_
    refine lv_iadd hx hb d_Pl_openStage_16 ?_
    refine va_put (D := (dC, dI)) (ci := 3) (v := .int ((fi 2) + (1 : Int32))) (ty := .int) (C := R_Pl) (T := T_Pl) (N := 11) hx hb ht in_Pl t_Pl t_Pl_ok n_Pl hown hK hP hD hS 4 rfl rfl 7 (by decide) (ht _ kw_59) (fun _ h9 => h9) rfl (by decide +kernel) rfl rfl (Nat.le_of_ble_eq_true rfl) d_Pl_openStage_17 (fun H locs hP hD hS => ?_)
    have hP := cwpfi_2 hP
    have hD := cwdfi_2 hD
    obtain ⟨fi_17, efi_17⟩ : ∃ z, z = va_up fi 2 ((fi 2) + (1 : Int32)) := ⟨_, rfl⟩
    rw [← efi_17] at hP hD
    have hw := zw_nm_x efi_17 hw
    refine lv_aload_n hx hb d_Pl_openStage_20 rfl (lv_at hl 0 rfl) ?_
    refine zw_cv (va_runV (As := []) (rest := []) ⟨hx, hb, hml, hown, hts⟩ (c_Pl_forgetPassedEnd l dC dI cI cJ cG cZ a H.size fi_17 fl ai_9 al _ hw) (cwV 0 hts (zw_goodV kw_349 kw_351 kw_s0 kw_3 kw_352) rfl rfl rfl hd_Pl_forgetPassedEnd ⟨Nat.le_of_ble_eq_true rfl, Nat.le_of_ble_eq_true rfl⟩) (zw_preVw (ci := 3) (q0 := 4) hK hN hP hD rfl rfl) rfl rfl hl.1 rfl (lv_room (Nat.le_of_ble_eq_true rfl)) d_Pl_openStage_21 ⟨Nat.le_of_ble_eq_true rfl, Nat.le_of_ble_eq_true rfl⟩) hD hS hA (fun fi_21 fl_21 ai_21 al_21 H locs hw hP hD hS => ?_)
    obtain ⟨rfl, rfl, rfl, hw⟩ := hw
    refine lv_aload_n hx hb d_Pl_openStage_24 rfl (lv_at hl 0 rfl) ?_
    refine va_get (D := (dC, dI)) (ci := 3) (v := .int (fi_21 2)) (C := R_Pl) (T := T_Pl) (N := 11) hx hb ht in_Pl hown hK hP 4 rfl rfl 7 (by decide) (ht _ kw_59) (fun _ h9 => h9) rfl d_Pl_openStage_25 ?_
    refine lv_iconst (v := (1 : Int32)) hx hb d_Pl_openStage_28 (by decide) ?_
    refine lv_isub hx hb d_Pl_openStage_29 ?_
    exact W.iret (v := ((fi_21 2) - (1 : Int32))) hx hb hr (fun t ht hW => ⟨⟨((fi_21 2) - (1 : Int32)), (fi_21, fl, ai_9, al), rfl, ⟨rfl, rfl, hw⟩, by rw [ht]; exact hP, va_K.moved hW.alike hK, hD⟩, hS.F ht⟩) hS.2.2 d_Pl_openStage_30
  rw [hH, hlo] at key
  exact key
