def SS_within_w (p0 : Int32) (p1 : Int32) (p2 : Int32) (K : Int32 → Prop) : Prop :=
  if p0 < p1 then (
    K (0 : Int32))
  else (
    if p2 < p0 then (
      K (0 : Int32))
    else (
      K (1 : Int32)))
theorem d_SS_within_0 : decode b_SS_within 0 = .ok (.iload_n 0, 1) := by decide +kernel
theorem d_SS_within_1 : decode b_SS_within 1 = .ok (.iload_n 1, 1) := by decide +kernel
theorem d_SS_within_2 : decode b_SS_within 2 = .ok (.if_icmp .lt (12), 3) := by decide +kernel
theorem d_SS_within_5 : decode b_SS_within 5 = .ok (.iload_n 0, 1) := by decide +kernel
theorem d_SS_within_6 : decode b_SS_within 6 = .ok (.iload_n 2, 1) := by decide +kernel
theorem d_SS_within_7 : decode b_SS_within 7 = .ok (.if_icmp .gt (7), 3) := by decide +kernel
theorem d_SS_within_10 : decode b_SS_within 10 = .ok (.iconst 1, 1) := by decide +kernel
theorem d_SS_within_11 : decode b_SS_within 11 = .ok (.goto (4), 3) := by decide +kernel
theorem d_SS_within_14 : decode b_SS_within 14 = .ok (.iconst 0, 1) := by decide +kernel
theorem d_SS_within_15 : decode b_SS_within 15 = .ok (.ireturn, 1) := by decide +kernel
set_option maxHeartbeats 4000000 in
set_option maxRecDepth 100000 in
theorem c_SS_within (l : Launch) (p0 : Int32) (p1 : Int32) (p2 : Int32) (K : Int32 → Prop) (hw : SS_within_w p0 p1 p2 K) : Met l y_SS_within ws_SS_within ({ frames := 0, cells := 0, slots := 0, locals := 0 }) (va_Pc [.int p0, .int p1, .int p2] (fun _ => True)) (vp_Si K) 0 0 (fun _ => False) := by
  refine Met.ofW (cc := b_SS_within) (maxL := 3) (ret := (Option.some FieldType.boolean)) (by decide) rfl ?_
  intro p e s m args below meth c s₁ B hml hv
  obtain ⟨rfl, -⟩ := hv
  have hx := B.exec
  have hb := B.bytes
  have hr := B.returns
  have hts := atoms_spec (ws := ws_SS_within) B.pre
  have ht : ∀ w ∈ zw_tbl, w.before _ s = true := fun w h => hts w (List.mem_cons_of_mem _ h)
  have hown : s.vm.findClass R_SS = some m.cls := findClass_of_methodNamed B.named
  have hlocks := B.notSynchronized
  have hl := lv_entry ([.int p0, .int p1, .int p2] : List Value) (n := 3) (Nat.le_of_ble_eq_true rfl)
  rw [lg_entry_eq]
  generalize (lg_sl ([.int p0, .int p1, .int p2] : List Value) ++ List.replicate (3 - (lg_sl ([.int p0, .int p1, .int p2] : List Value)).length) Slot.unset).toArray = ls at hl ⊢
  have hl : lv_has ls 3 [(0, .int p0), (1, .int p1), (2, .int p2)] := hl
  unfold SS_within_w at hw
  refine lv_iload_n hx hb d_SS_within_0 rfl (lv_at hl 0 rfl) ?_
  refine lv_iload_n hx hb d_SS_within_1 rfl (lv_at hl 1 rfl) ?_
  refine lv_icmp_lt (tgt := 14) hx hb d_SS_within_2 (by decide) (fun c2 => ?_) (fun c2 => ?_)
  · have hw := zw_ite_t c2 hw
    refine lv_iconst (v := (0 : Int32)) hx hb d_SS_within_14 (by decide) ?_
    exact W.zret (v := (0 : Int32)) (ty := .boolean) hx hb hr rfl (fun t ht hW => ⟨(0 : Int32), rfl, hw, ht⟩) t_nil d_SS_within_15
  · have hw := zw_ite_f c2 hw
    refine lv_iload_n hx hb d_SS_within_5 rfl (lv_at hl 0 rfl) ?_
    refine lv_iload_n hx hb d_SS_within_6 rfl (lv_at hl 2 rfl) ?_
    refine lv_icmp_gt (tgt := 14) hx hb d_SS_within_7 (by decide) (fun c7 => ?_) (fun c7 => ?_)
    · have hw := zw_ite_t c7 hw
      refine lv_iconst (v := (0 : Int32)) hx hb d_SS_within_14 (by decide) ?_
      exact W.zret (v := (0 : Int32)) (ty := .boolean) hx hb hr rfl (fun t ht hW => ⟨(0 : Int32), rfl, hw, ht⟩) t_nil d_SS_within_15
    · have hw := zw_ite_f c7 hw
      refine lv_iconst (v := (1 : Int32)) hx hb d_SS_within_10 (by decide) ?_
      refine lv_goto (tgt := 15) hx hb d_SS_within_11 (by decide) ?_
      exact W.zret (v := (1 : Int32)) (ty := .boolean) hx hb hr rfl (fun t ht hW => ⟨(1 : Int32), rfl, hw, ht⟩) t_nil d_SS_within_15
def Gi_hasPart_w (fi : Nat → Int32) (fl : Nat → Int64) (ai : Nat → Nat → Int32) (al : Nat → Nat → Int64) (p0 : Int32) (K : Int32 → Prop) : Prop :=
  SS_within_w p0 (0 : Int32) ((fi 7) - (1 : Int32)) (fun (r8 : Int32) =>
  zw_bool r8 ∧ (K r8))
theorem d_Gi_hasPart_0 : decode b_Gi_hasPart 0 = .ok (.iload_n 1, 1) := by decide +kernel
theorem d_Gi_hasPart_1 : decode b_Gi_hasPart 1 = .ok (.iconst 0, 1) := by decide +kernel
theorem d_Gi_hasPart_2 : decode b_Gi_hasPart 2 = .ok (.aload_n 0, 1) := by decide +kernel
theorem d_Gi_hasPart_3 : decode b_Gi_hasPart 3 = .ok (.getfield 32, 3) := by decide +kernel
theorem d_Gi_hasPart_6 : decode b_Gi_hasPart 6 = .ok (.iconst 1, 1) := by decide +kernel
theorem d_Gi_hasPart_7 : decode b_Gi_hasPart 7 = .ok (.isub, 1) := by decide +kernel
theorem d_Gi_hasPart_8 : decode b_Gi_hasPart 8 = .ok (.invokestatic 36, 3) := by decide +kernel
theorem d_Gi_hasPart_11 : decode b_Gi_hasPart 11 = .ok (.ireturn, 1) := by decide +kernel
set_option maxHeartbeats 4000000 in
set_option maxRecDepth 100000 in
theorem c_Gi_hasPart (l : Launch) (dC : Nat → ClassId) (dI : Nat → Nat → Nat) (cI cJ cG cZ : ClassId) (a : Nat → Nat) (fi : Nat → Int32) (fl : Nat → Int64) (ai : Nat → Nat → Int32) (al : Nat → Nat → Int64) (p0 : Int32) (K : Int32 → Prop) (hw : Gi_hasPart_w fi fl ai al p0 K) : Met l y_Gi_hasPart ws_Gi_hasPart ({ frames := 1, cells := 0, slots := 0, locals := 22 }) (va_Pc [.ref (a 19), .int p0] (zw_B (dC, dI) vwCl [(cI, .int), (cJ, .long), (cG, .array .int), (cZ, .boolean)] (cw cI cJ cG cZ a fi fl ai al))) (vp_Si K) 0 0 (fun _ => False) := by
  refine Met.ofW (cc := b_Gi_hasPart) (maxL := 2) (ret := (Option.some FieldType.boolean)) (by decide) rfl ?_
  intro p e s m args below meth c s₁ B hml hv
  obtain ⟨rfl, hP, hK, hN⟩ := hv
  have hx := B.exec
  have hb := B.bytes
  have hr := B.returns
  have hts := atoms_spec (ws := ws_Gi_hasPart) B.pre
  have ht : ∀ w ∈ zw_tbl, w.before _ s = true := fun w h => hts w (List.mem_cons_of_mem _ h)
  have hown : s.vm.findClass R_Gi = some m.cls := findClass_of_methodNamed B.named
  have hlocks := B.notSynchronized
  have hl := lv_entry ([.ref (a 19), .int p0] : List Value) (n := 2) (Nat.le_of_ble_eq_true rfl)
  rw [lg_entry_eq]
  generalize (lg_sl ([.ref (a 19), .int p0] : List Value) ++ List.replicate (2 - (lg_sl ([.ref (a 19), .int p0] : List Value)).length) Slot.unset).toArray = ls at hl ⊢
  have hl : lv_has ls 2 [(0, .ref (a 19)), (1, .int p0)] := hl
  unfold Gi_hasPart_w at hw
  refine lv_iload_n hx hb d_Gi_hasPart_0 rfl (lv_at hl 1 rfl) ?_
  refine lv_iconst (v := (0 : Int32)) hx hb d_Gi_hasPart_1 (by decide) ?_
  refine lv_aload_n hx hb d_Gi_hasPart_2 rfl (lv_at hl 0 rfl) ?_
  refine va_get (D := (dC, dI)) (ci := 2) (v := .int (fi 7)) (C := R_Gi) (T := T_Gi) (N := 7) hx hb ht in_Gi hown hK hP 19 rfl rfl 0 (by decide) (ht _ kw_134) (fun _ h9 => h9) rfl d_Gi_hasPart_3 ?_
  refine lv_iconst (v := (1 : Int32)) hx hb d_Gi_hasPart_6 (by decide) ?_
  refine lv_isub hx hb d_Gi_hasPart_7 ?_
  refine vp_callSi (va_Run.run (va_runSN (As := [.int p0, .int (0 : Int32), .int ((fi 7) - (1 : Int32))]) (rest := []) ⟨hx, hb, hml, hown, hts⟩ (c_SS_within l p0 (0 : Int32) ((fi 7) - (1 : Int32)) _ hw) ⟨va_cnB 3 hts (zw_goodC kw_280) rfl rfl rfl (hN _ nw_278) (ht _ kw_1) hd_SS_within.2 ⟨Nat.le_of_ble_eq_true rfl, Nat.le_of_ble_eq_true rfl⟩, ht _ kw_279, trivial⟩ zw_preS0 rfl rfl hl.1 rfl (lv_room (Nat.le_of_ble_eq_true rfl)) d_Gi_hasPart_8 ⟨Nat.le_of_ble_eq_true rfl, Nat.le_of_ble_eq_true rfl⟩)) (fun r8 hw => ?_)
  obtain ⟨hz, hw⟩ := hw
  exact W.zret (v := r8) (ty := .boolean) hx hb hr (zw_bool_n hz) (fun t ht hW => ⟨r8, rfl, hw, ht⟩) t_nil d_Gi_hasPart_11
def SS_part_w (fi : Nat → Int32) (fl : Nat → Int64) (ai : Nat → Nat → Int32) (al : Nat → Nat → Int64) (p0 : Int32) (p1 : Int32) (p2 : Int32) (K : Int32 → (Nat → Nat → Int32) → Prop) : Prop :=
  Gi_hasPart_w fi fl ai al p0 (fun (r5 : Int32) =>
  if r5 = 0 then (
    K (0 : Int32) ai)
  else (
    SS_within_w p1 (0 : Int32) (1000 : Int32) (fun (r16 : Int32) =>
    if r16 = 0 then (
      K (0 : Int32) ai)
    else (
      SS_within_w p2 (-100000 : Int32) (100000 : Int32) (fun (r27 : Int32) =>
      if r27 = 0 then (
        K (0 : Int32) ai)
      else (
        vp_in p0 6 ∧ (zw_nm (va_up ai 20 (upd (ai 20) p0.toNatClampNeg p1)) (fun (ai_44 : Nat → Nat → Int32) =>
        vp_in p0 6 ∧ (zw_nm (va_up ai_44 21 (upd (ai_44 21) p0.toNatClampNeg p2)) (fun (ai_54 : Nat → Nat → Int32) =>
        K (1 : Int32) ai_54))))))))))
theorem d_SS_part_0 : decode b_SS_part 0 = .ok (.aload_n 0, 1) := by decide +kernel
theorem d_SS_part_1 : decode b_SS_part 1 = .ok (.getfield 55, 3) := by decide +kernel
theorem d_SS_part_4 : decode b_SS_part 4 = .ok (.iload_n 1, 1) := by decide +kernel
theorem d_SS_part_5 : decode b_SS_part 5 = .ok (.invokevirtual 77, 3) := by decide +kernel
theorem d_SS_part_8 : decode b_SS_part 8 = .ok (.ifCond .eq (25), 3) := by decide +kernel
theorem d_SS_part_11 : decode b_SS_part 11 = .ok (.iload_n 2, 1) := by decide +kernel
theorem d_SS_part_12 : decode b_SS_part 12 = .ok (.iconst 0, 1) := by decide +kernel
theorem d_SS_part_13 : decode b_SS_part 13 = .ok (.sipush (1000), 3) := by decide +kernel
theorem d_SS_part_16 : decode b_SS_part 16 = .ok (.invokestatic 81, 3) := by decide +kernel
theorem d_SS_part_19 : decode b_SS_part 19 = .ok (.ifCond .eq (14), 3) := by decide +kernel
theorem d_SS_part_22 : decode b_SS_part 22 = .ok (.iload_n 3, 1) := by decide +kernel
theorem d_SS_part_23 : decode b_SS_part 23 = .ok (.ldc 85, 2) := by decide +kernel
theorem d_SS_part_25 : decode b_SS_part 25 = .ok (.ldc 86, 2) := by decide +kernel
theorem d_SS_part_27 : decode b_SS_part 27 = .ok (.invokestatic 81, 3) := by decide +kernel
theorem d_SS_part_30 : decode b_SS_part 30 = .ok (.ifCond .ne (5), 3) := by decide +kernel
theorem d_SS_part_33 : decode b_SS_part 33 = .ok (.iconst 0, 1) := by decide +kernel
theorem d_SS_part_34 : decode b_SS_part 34 = .ok (.ireturn, 1) := by decide +kernel
theorem d_SS_part_35 : decode b_SS_part 35 = .ok (.aload_n 0, 1) := by decide +kernel
theorem d_SS_part_36 : decode b_SS_part 36 = .ok (.getfield 55, 3) := by decide +kernel
theorem d_SS_part_39 : decode b_SS_part 39 = .ok (.getfield 87, 3) := by decide +kernel
theorem d_SS_part_42 : decode b_SS_part 42 = .ok (.iload_n 1, 1) := by decide +kernel
theorem d_SS_part_43 : decode b_SS_part 43 = .ok (.iload_n 2, 1) := by decide +kernel
theorem d_SS_part_44 : decode b_SS_part 44 = .ok (.iastore, 1) := by decide +kernel
theorem d_SS_part_45 : decode b_SS_part 45 = .ok (.aload_n 0, 1) := by decide +kernel
theorem d_SS_part_46 : decode b_SS_part 46 = .ok (.getfield 55, 3) := by decide +kernel
theorem d_SS_part_49 : decode b_SS_part 49 = .ok (.getfield 91, 3) := by decide +kernel
theorem d_SS_part_52 : decode b_SS_part 52 = .ok (.iload_n 1, 1) := by decide +kernel
theorem d_SS_part_53 : decode b_SS_part 53 = .ok (.iload_n 3, 1) := by decide +kernel
theorem d_SS_part_54 : decode b_SS_part 54 = .ok (.iastore, 1) := by decide +kernel
theorem d_SS_part_55 : decode b_SS_part 55 = .ok (.iconst 1, 1) := by decide +kernel
theorem d_SS_part_56 : decode b_SS_part 56 = .ok (.ireturn, 1) := by decide +kernel
set_option maxHeartbeats 4000000 in
set_option maxRecDepth 100000 in
theorem c_SS_part (l : Launch) (dC : Nat → ClassId) (dI : Nat → Nat → Nat) (cI cJ cG cZ : ClassId) (a : Nat → Nat) (sz : Nat) (fi : Nat → Int32) (fl : Nat → Int64) (ai : Nat → Nat → Int32) (al : Nat → Nat → Int64) (p0 : Int32) (p1 : Int32) (p2 : Int32) (K : Int32 → (Nat → Nat → Int32) → Prop) (hw : SS_part_w fi fl ai al p0 p1 p2 K) : Met l y_SS_part ws_SS_part ({ frames := 2, cells := 0, slots := 0, locals := 43 }) (va_Pc [.ref (a 0), .int p0, .int p1, .int p2] (zw_Bw (dC, dI) vwCl [(cI, .int), (cJ, .long), (cG, .array .int), (cZ, .boolean)] (cw cI cJ cG cZ a fi fl ai al) sz)) (va_Qi (fun r (u : zw_Z) => (zw_k_air fi fl al K) r u.1 u.2.1 u.2.2.1 u.2.2.2) (fun u t => zw_E (dC, dI) vwCl [(cI, .int), (cJ, .long), (cG, .array .int), (cZ, .boolean)] (va_A (cw cI cJ cG cZ a fi fl ai al) sz) (cw cI cJ cG cZ a u.1 u.2.1 u.2.2.1 u.2.2.2) t) (va_A (cw cI cJ cG cZ a fi fl ai al) sz)) 0 0 (va_A (cw cI cJ cG cZ a fi fl ai al) sz) := by
  refine Met.ofW (cc := b_SS_part) (maxL := 4) (ret := (Option.some FieldType.boolean)) (by decide) rfl ?_
  intro p e s m args below meth c s₁ B hml hv
  obtain ⟨rfl, hsz, hP, hK, hD0, hN⟩ := hv
  have hx := B.exec
  have hb := B.bytes
  have hr := B.returns
  have hts := atoms_spec (ws := ws_SS_part) B.pre
  have ht : ∀ w ∈ zw_tbl, w.before _ s = true := fun w h => hts w (List.mem_cons_of_mem _ h)
  have hown : s.vm.findClass R_SS = some m.cls := findClass_of_methodNamed B.named
  have hlocks := B.notSynchronized
  subst hsz
  have hD := hD0.self (sz := s.heap.size)
  generalize hAe : va_A (cw cI cJ cG cZ a fi fl ai al) s.heap.size = A at hD ⊢
  have hA : ∀ q : Nat, s.heap.size ≤ q → A q := fun q h => by rw [← hAe]; exact Or.inr h
  have hS : va_S A s.heap s.heap [] := va_S.rf
  have hl := lv_entry ([.ref (a 0), .int p0, .int p1, .int p2] : List Value) (n := 4) (Nat.le_of_ble_eq_true rfl)
  rw [lg_entry_eq]
  generalize (lg_sl ([.ref (a 0), .int p0, .int p1, .int p2] : List Value) ++ List.replicate (4 - (lg_sl ([.ref (a 0), .int p0, .int p1, .int p2] : List Value)).length) Slot.unset).toArray = ls at hl ⊢
  have hl : lv_has ls 4 [(0, .ref (a 0)), (1, .int p0), (2, .int p1), (3, .int p2)] := hl
  unfold SS_part_w at hw
  obtain ⟨H, hH⟩ : ∃ H, H = s.heap := ⟨_, rfl⟩
  obtain ⟨locs, hlo⟩ : ∃ q : List Loc, q = [] := ⟨_, rfl⟩
  have hP : va_P (dC, dI) vwCl (cw cI cJ cG cZ a fi fl ai al) H := by rw [hH]; exact hP
  have hS : va_S A s.heap H locs := by rw [hH, hlo]; exact hS
  have key : W p l e (headSpec ws_SS_part ({ frames := 2, cells := 0, slots := 0, locals := 43 })).room s m ([.ref (a 0), .int p0, .int p1, .int p2] : List Value).toArray below meth c H locs 0 0 (MQ below (va_Qi (fun r (u : zw_Z) => (zw_k_air fi fl al K) r u.1 u.2.1 u.2.2.1 u.2.2.2) (fun u t => zw_E (dC, dI) vwCl [(cI, .int), (cJ, .long), (cG, .array .int), (cZ, .boolean)] A (cw cI cJ cG cZ a u.1 u.2.1 u.2.2.1 u.2.2.2) t) A) ([.ref (a 0), .int p0, .int p1, .int p2] : List Value).toArray s 0 0 A) (F0 m 0 ls []) := by
    refine lv_aload_n hx hb d_SS_part_0 rfl (lv_at hl 0 rfl) ?_
    refine va_get (D := (dC, dI)) (ci := 0) (v := .ref (a 19)) (C := R_SS) (T := T_SS) (N := 9) hx hb ht in_SS hown hK hP 0 rfl rfl 0 (by decide) (ht _ kw_242) (fun _ h9 => h9) rfl d_SS_part_1 ?_
    refine lv_iload_n hx hb d_SS_part_4 rfl (lv_at hl 1 rfl) ?_
    refine vp_callSi (va_Run.run (va_runV (As := [.int p0]) (rest := []) ⟨hx, hb, hml, hown, hts⟩ (c_Gi_hasPart l dC dI cI cJ cG cZ a fi fl ai al p0 _ hw) (cwV 1 hts (zw_goodV kw_274 kw_275 kw_276 kw_5 kw_277) rfl rfl rfl hd_Gi_hasPart ⟨Nat.le_of_ble_eq_true rfl, Nat.le_of_ble_eq_true rfl⟩) (zw_preV (ci := 2) (q0 := 19) hK hN hP rfl rfl) rfl rfl hl.1 rfl (lv_room (Nat.le_of_ble_eq_true rfl)) d_SS_part_5 ⟨Nat.le_of_ble_eq_true rfl, Nat.le_of_ble_eq_true rfl⟩)) (fun r5 hw => ?_)
    refine lv_if_eq (tgt := 33) hx hb d_SS_part_8 (by decide) (fun c8 => ?_) (fun c8 => ?_)
    · have hw := zw_ite_t c8 hw
      refine lv_iconst (v := (0 : Int32)) hx hb d_SS_part_33 (by decide) ?_
      exact W.zret (v := (0 : Int32)) (ty := .boolean) hx hb hr rfl (fun t ht hW => ⟨⟨(0 : Int32), (fi, fl, ai, al), rfl, ⟨rfl, rfl, rfl, hw⟩, by rw [ht]; exact hP, va_K.moved hW.alike hK, hD⟩, hS.F ht⟩) hS.2.2 d_SS_part_34
    · have hw := zw_ite_f c8 hw
      refine lv_iload_n hx hb d_SS_part_11 rfl (lv_at hl 2 rfl) ?_
      refine lv_iconst (v := (0 : Int32)) hx hb d_SS_part_12 (by decide) ?_
      refine lv_sipush (v := (1000 : Int32)) hx hb d_SS_part_13 (by decide) ?_
      refine vp_callSi (va_Run.run (va_runS (As := [.int p1, .int (0 : Int32), .int (1000 : Int32)]) (rest := []) ⟨hx, hb, hml, hown, hts⟩ (c_SS_within l p1 (0 : Int32) (1000 : Int32) _ hw) (va_cwS 3 hts (zw_goodS kw_281 kw_279 kw_1 kw_280) rfl rfl rfl hd_SS_within.2 ⟨Nat.le_of_ble_eq_true rfl, Nat.le_of_ble_eq_true rfl⟩) zw_preS0 rfl rfl hl.1 rfl (lv_room (Nat.le_of_ble_eq_true rfl)) d_SS_part_16 ⟨Nat.le_of_ble_eq_true rfl, Nat.le_of_ble_eq_true rfl⟩)) (fun r16 hw => ?_)
      refine lv_if_eq (tgt := 33) hx hb d_SS_part_19 (by decide) (fun c19 => ?_) (fun c19 => ?_)
      · have hw := zw_ite_t c19 hw
        refine lv_iconst (v := (0 : Int32)) hx hb d_SS_part_33 (by decide) ?_
        exact W.zret (v := (0 : Int32)) (ty := .boolean) hx hb hr rfl (fun t ht hW => ⟨⟨(0 : Int32), (fi, fl, ai, al), rfl, ⟨rfl, rfl, rfl, hw⟩, by rw [ht]; exact hP, va_K.moved hW.alike hK, hD⟩, hS.F ht⟩) hS.2.2 d_SS_part_34
      · have hw := zw_ite_f c19 hw
        refine lv_iload_n hx hb d_SS_part_22 rfl (lv_at hl 3 rfl) ?_
        refine lv_ldc (v := (-100000 : Int32)) hx hb hown (hts (.constant R_SS 85 (-100000 : Int32)) (by decide +kernel)) d_SS_part_23 ?_
        refine lv_ldc (v := (100000 : Int32)) hx hb hown (hts (.constant R_SS 86 (100000 : Int32)) (by decide +kernel)) d_SS_part_25 ?_
        refine vp_callSi (va_Run.run (va_runS (As := [.int p2, .int (-100000 : Int32), .int (100000 : Int32)]) (rest := []) ⟨hx, hb, hml, hown, hts⟩ (c_SS_within l p2 (-100000 : Int32) (100000 : Int32) _ hw) (va_cwS 3 hts (zw_goodS kw_281 kw_279 kw_1 kw_280) rfl rfl rfl hd_SS_within.2 ⟨Nat.le_of_ble_eq_true rfl, Nat.le_of_ble_eq_true rfl⟩) zw_preS0 rfl rfl hl.1 rfl (lv_room (Nat.le_of_ble_eq_true rfl)) d_SS_part_27 ⟨Nat.le_of_ble_eq_true rfl, Nat.le_of_ble_eq_true rfl⟩)) (fun r27 hw => ?_)
        refine lv_if_ne (tgt := 35) hx hb d_SS_part_30 (by decide) (fun c30 => ?_) (fun c30 => ?_)
        · have hw := zw_ite_f c30 hw
          refine lv_aload_n hx hb d_SS_part_35 rfl (lv_at hl 0 rfl) ?_
          refine va_get (D := (dC, dI)) (ci := 0) (v := .ref (a 19)) (C := R_SS) (T := T_SS) (N := 9) hx hb ht in_SS hown hK hP 0 rfl rfl 0 (by decide) (ht _ kw_242) (fun _ h9 => h9) rfl d_SS_part_36 ?_
          refine va_get (D := (dC, dI)) (ci := 2) (v := .ref (a 20)) (C := R_Gi) (T := T_Gi) (N := 7) hx hb ht in_Gi hown hK hP 19 rfl rfl 1 (by decide) (ht _ kw_139) (fun _ h9 => h9) rfl d_SS_part_39 ?_
          refine lv_iload_n hx hb d_SS_part_42 rfl (lv_at hl 1 rfl) ?_
          refine lv_iload_n hx hb d_SS_part_43 rfl (lv_at hl 2 rfl) ?_
          obtain ⟨h44, hw⟩ := hw
          refine va_iast (f := ai 20) hx hb hK hP hD hS 20 0 rfl rfl h44 d_SS_part_44 (fun H locs hP hD hS => ?_)
          have hP := cwpai_20 hP
          have hD := cwdai_20 hD
          obtain ⟨ai_44, eai_44⟩ : ∃ z, z = va_up ai 20 (upd (ai 20) p0.toNatClampNeg p1) := ⟨_, rfl⟩
          rw [← eai_44] at hP hD
          have hw := zw_nm_x eai_44 hw
          refine lv_aload_n hx hb d_SS_part_45 rfl (lv_at hl 0 rfl) ?_
          refine va_get (D := (dC, dI)) (ci := 0) (v := .ref (a 19)) (C := R_SS) (T := T_SS) (N := 9) hx hb ht in_SS hown hK hP 0 rfl rfl 0 (by decide) (ht _ kw_242) (fun _ h9 => h9) rfl d_SS_part_46 ?_
          refine va_get (D := (dC, dI)) (ci := 2) (v := .ref (a 21)) (C := R_Gi) (T := T_Gi) (N := 7) hx hb ht in_Gi hown hK hP 19 rfl rfl 2 (by decide) (ht _ kw_142) (fun _ h9 => h9) rfl d_SS_part_49 ?_
          refine lv_iload_n hx hb d_SS_part_52 rfl (lv_at hl 1 rfl) ?_
          refine lv_iload_n hx hb d_SS_part_53 rfl (lv_at hl 3 rfl) ?_
          obtain ⟨h54, hw⟩ := hw
          refine va_iast (f := ai_44 21) hx hb hK hP hD hS 21 0 rfl rfl h54 d_SS_part_54 (fun H locs hP hD hS => ?_)
          have hP := cwpai_21 hP
          have hD := cwdai_21 hD
          obtain ⟨ai_54, eai_54⟩ : ∃ z, z = va_up ai_44 21 (upd (ai_44 21) p0.toNatClampNeg p2) := ⟨_, rfl⟩
          rw [← eai_54] at hP hD
          have hw := zw_nm_x eai_54 hw
          refine lv_iconst (v := (1 : Int32)) hx hb d_SS_part_55 (by decide) ?_
          exact W.zret (v := (1 : Int32)) (ty := .boolean) hx hb hr rfl (fun t ht hW => ⟨⟨(1 : Int32), (fi, fl, ai_54, al), rfl, ⟨rfl, rfl, rfl, hw⟩, by rw [ht]; exact hP, va_K.moved hW.alike hK, hD⟩, hS.F ht⟩) hS.2.2 d_SS_part_56
        · have hw := zw_ite_t c30 hw
          refine lv_iconst (v := (0 : Int32)) hx hb d_SS_part_33 (by decide) ?_
          exact W.zret (v := (0 : Int32)) (ty := .boolean) hx hb hr rfl (fun t ht hW => ⟨⟨(0 : Int32), (fi, fl, ai, al), rfl, ⟨rfl, rfl, rfl, hw⟩, by rw [ht]; exact hP, va_K.moved hW.alike hK, hD⟩, hS.F ht⟩) hS.2.2 d_SS_part_34
  rw [hH, hlo] at key
  exact key
def SS_isFactor_w (p0 : Int32) (K : Int32 → Prop) : Prop :=
  SS_within_w p0 (-1000 : Int32) (1000 : Int32) (fun (r7 : Int32) =>
  zw_bool r7 ∧ (K r7))
theorem d_SS_isFactor_0 : decode b_SS_isFactor 0 = .ok (.iload_n 0, 1) := by decide +kernel
theorem d_SS_isFactor_1 : decode b_SS_isFactor 1 = .ok (.sipush (-1000), 3) := by decide +kernel
theorem d_SS_isFactor_4 : decode b_SS_isFactor 4 = .ok (.sipush (1000), 3) := by decide +kernel
theorem d_SS_isFactor_7 : decode b_SS_isFactor 7 = .ok (.invokestatic 81, 3) := by decide +kernel
theorem d_SS_isFactor_10 : decode b_SS_isFactor 10 = .ok (.ireturn, 1) := by decide +kernel
set_option maxHeartbeats 4000000 in
set_option maxRecDepth 100000 in
theorem c_SS_isFactor (l : Launch) (p0 : Int32) (K : Int32 → Prop) (hw : SS_isFactor_w p0 K) : Met l y_SS_isFactor ws_SS_isFactor ({ frames := 1, cells := 0, slots := 0, locals := 22 }) (va_Pc [.int p0] (fun _ => True)) (vp_Si K) 0 0 (fun _ => False) := by
  refine Met.ofW (cc := b_SS_isFactor) (maxL := 1) (ret := (Option.some FieldType.boolean)) (by decide) rfl ?_
  intro p e s m args below meth c s₁ B hml hv
  obtain ⟨rfl, -⟩ := hv
  have hx := B.exec
  have hb := B.bytes
  have hr := B.returns
  have hts := atoms_spec (ws := ws_SS_isFactor) B.pre
  have ht : ∀ w ∈ zw_tbl, w.before _ s = true := fun w h => hts w (List.mem_cons_of_mem _ h)
  have hown : s.vm.findClass R_SS = some m.cls := findClass_of_methodNamed B.named
  have hlocks := B.notSynchronized
  have hl := lv_entry ([.int p0] : List Value) (n := 1) (Nat.le_of_ble_eq_true rfl)
  rw [lg_entry_eq]
  generalize (lg_sl ([.int p0] : List Value) ++ List.replicate (1 - (lg_sl ([.int p0] : List Value)).length) Slot.unset).toArray = ls at hl ⊢
  have hl : lv_has ls 1 [(0, .int p0)] := hl
  unfold SS_isFactor_w at hw
  refine lv_iload_n hx hb d_SS_isFactor_0 rfl (lv_at hl 0 rfl) ?_
  refine lv_sipush (v := (-1000 : Int32)) hx hb d_SS_isFactor_1 (by decide) ?_
  refine lv_sipush (v := (1000 : Int32)) hx hb d_SS_isFactor_4 (by decide) ?_
  refine vp_callSi (va_Run.run (va_runS (As := [.int p0, .int (-1000 : Int32), .int (1000 : Int32)]) (rest := []) ⟨hx, hb, hml, hown, hts⟩ (c_SS_within l p0 (-1000 : Int32) (1000 : Int32) _ hw) (va_cwS 3 hts (zw_goodS kw_281 kw_279 kw_1 kw_280) rfl rfl rfl hd_SS_within.2 ⟨Nat.le_of_ble_eq_true rfl, Nat.le_of_ble_eq_true rfl⟩) zw_preS0 rfl rfl hl.1 rfl (lv_room (Nat.le_of_ble_eq_true rfl)) d_SS_isFactor_7 ⟨Nat.le_of_ble_eq_true rfl, Nat.le_of_ble_eq_true rfl⟩)) (fun r7 hw => ?_)
  obtain ⟨hz, hw⟩ := hw
  exact W.zret (v := r7) (ty := .boolean) hx hb hr (zw_bool_n hz) (fun t ht hW => ⟨r7, rfl, hw, ht⟩) t_nil d_SS_isFactor_10
def SS_flex_w (fi : Nat → Int32) (fl : Nat → Int64) (ai : Nat → Nat → Int32) (al : Nat → Nat → Int64) (p0 : Int32) (p1 : Int32) (p2 : Int32) (p3 : Int32) (K : Int32 → (Nat → Nat → Int32) → Prop) : Prop :=
  SS_within_w p0 (0 : Int32) (7 : Int32) (fun (r4 : Int32) =>
  if r4 = 0 then (
    K (0 : Int32) ai)
  else (
    Gi_hasPart_w fi fl ai al p1 (fun (r15 : Int32) =>
    if r15 = 0 then (
      K (0 : Int32) ai)
    else (
      Gi_hasPart_w fi fl ai al p2 (fun (r26 : Int32) =>
      if r26 = 0 then (
        K (0 : Int32) ai)
      else (
        SS_isFactor_w p3 (fun (r34 : Int32) =>
        if r34 = 0 then (
          K (0 : Int32) ai)
        else (
          vp_in p0 8 ∧ (
          vp_in ((p1 * (6 : Int32)) + p2) 36 ∧ (zw_nm (va_up ai (23 + p0.toNatClampNeg) (upd (ai (23 + p0.toNatClampNeg)) ((p1 * (6 : Int32)) + p2).toNatClampNeg p3)) (fun (ai_59 : Nat → Nat → Int32) =>
          K (1 : Int32) ai_59)))))))))))
theorem d_SS_flex_0 : decode b_SS_flex 0 = .ok (.iload_n 1, 1) := by decide +kernel
theorem d_SS_flex_1 : decode b_SS_flex 1 = .ok (.iconst 0, 1) := by decide +kernel
theorem d_SS_flex_2 : decode b_SS_flex 2 = .ok (.bipush (7), 2) := by decide +kernel
theorem d_SS_flex_4 : decode b_SS_flex 4 = .ok (.invokestatic 81, 3) := by decide +kernel
theorem d_SS_flex_7 : decode b_SS_flex 7 = .ok (.ifCond .eq (33), 3) := by decide +kernel
theorem d_SS_flex_10 : decode b_SS_flex 10 = .ok (.aload_n 0, 1) := by decide +kernel
theorem d_SS_flex_11 : decode b_SS_flex 11 = .ok (.getfield 55, 3) := by decide +kernel
theorem d_SS_flex_14 : decode b_SS_flex 14 = .ok (.iload_n 2, 1) := by decide +kernel
theorem d_SS_flex_15 : decode b_SS_flex 15 = .ok (.invokevirtual 77, 3) := by decide +kernel
theorem d_SS_flex_18 : decode b_SS_flex 18 = .ok (.ifCond .eq (22), 3) := by decide +kernel
theorem d_SS_flex_21 : decode b_SS_flex 21 = .ok (.aload_n 0, 1) := by decide +kernel
theorem d_SS_flex_22 : decode b_SS_flex 22 = .ok (.getfield 55, 3) := by decide +kernel
theorem d_SS_flex_25 : decode b_SS_flex 25 = .ok (.iload_n 3, 1) := by decide +kernel
theorem d_SS_flex_26 : decode b_SS_flex 26 = .ok (.invokevirtual 77, 3) := by decide +kernel
theorem d_SS_flex_29 : decode b_SS_flex 29 = .ok (.ifCond .eq (11), 3) := by decide +kernel
theorem d_SS_flex_32 : decode b_SS_flex 32 = .ok (.iload 4, 2) := by decide +kernel
theorem d_SS_flex_34 : decode b_SS_flex 34 = .ok (.invokestatic 94, 3) := by decide +kernel
theorem d_SS_flex_37 : decode b_SS_flex 37 = .ok (.ifCond .ne (5), 3) := by decide +kernel
theorem d_SS_flex_40 : decode b_SS_flex 40 = .ok (.iconst 0, 1) := by decide +kernel
theorem d_SS_flex_41 : decode b_SS_flex 41 = .ok (.ireturn, 1) := by decide +kernel
theorem d_SS_flex_42 : decode b_SS_flex 42 = .ok (.aload_n 0, 1) := by decide +kernel
theorem d_SS_flex_43 : decode b_SS_flex 43 = .ok (.getfield 55, 3) := by decide +kernel
theorem d_SS_flex_46 : decode b_SS_flex 46 = .ok (.getfield 97, 3) := by decide +kernel
theorem d_SS_flex_49 : decode b_SS_flex 49 = .ok (.iload_n 1, 1) := by decide +kernel
theorem d_SS_flex_50 : decode b_SS_flex 50 = .ok (.aaload, 1) := by decide +kernel
theorem d_SS_flex_51 : decode b_SS_flex 51 = .ok (.iload_n 2, 1) := by decide +kernel
theorem d_SS_flex_52 : decode b_SS_flex 52 = .ok (.bipush (6), 2) := by decide +kernel
theorem d_SS_flex_54 : decode b_SS_flex 54 = .ok (.imul, 1) := by decide +kernel
theorem d_SS_flex_55 : decode b_SS_flex 55 = .ok (.iload_n 3, 1) := by decide +kernel
theorem d_SS_flex_56 : decode b_SS_flex 56 = .ok (.iadd, 1) := by decide +kernel
theorem d_SS_flex_57 : decode b_SS_flex 57 = .ok (.iload 4, 2) := by decide +kernel
theorem d_SS_flex_59 : decode b_SS_flex 59 = .ok (.iastore, 1) := by decide +kernel
theorem d_SS_flex_60 : decode b_SS_flex 60 = .ok (.iconst 1, 1) := by decide +kernel
theorem d_SS_flex_61 : decode b_SS_flex 61 = .ok (.ireturn, 1) := by decide +kernel
set_option maxHeartbeats 4000000 in
set_option maxRecDepth 100000 in
theorem c_SS_flex (l : Launch) (dC : Nat → ClassId) (dI : Nat → Nat → Nat) (cI cJ cG cZ : ClassId) (a : Nat → Nat) (sz : Nat) (fi : Nat → Int32) (fl : Nat → Int64) (ai : Nat → Nat → Int32) (al : Nat → Nat → Int64) (p0 : Int32) (p1 : Int32) (p2 : Int32) (p3 : Int32) (K : Int32 → (Nat → Nat → Int32) → Prop) (hw : SS_flex_w fi fl ai al p0 p1 p2 p3 K) : Met l y_SS_flex ws_SS_flex ({ frames := 2, cells := 0, slots := 0, locals := 43 }) (va_Pc [.ref (a 0), .int p0, .int p1, .int p2, .int p3] (zw_Bw (dC, dI) vwCl [(cI, .int), (cJ, .long), (cG, .array .int), (cZ, .boolean)] (cw cI cJ cG cZ a fi fl ai al) sz)) (va_Qi (fun r (u : zw_Z) => (zw_k_air fi fl al K) r u.1 u.2.1 u.2.2.1 u.2.2.2) (fun u t => zw_E (dC, dI) vwCl [(cI, .int), (cJ, .long), (cG, .array .int), (cZ, .boolean)] (va_A (cw cI cJ cG cZ a fi fl ai al) sz) (cw cI cJ cG cZ a u.1 u.2.1 u.2.2.1 u.2.2.2) t) (va_A (cw cI cJ cG cZ a fi fl ai al) sz)) 0 0 (va_A (cw cI cJ cG cZ a fi fl ai al) sz) := by
  refine Met.ofW (cc := b_SS_flex) (maxL := 5) (ret := (Option.some FieldType.boolean)) (by decide) rfl ?_
  intro p e s m args below meth c s₁ B hml hv
  obtain ⟨rfl, hsz, hP, hK, hD0, hN⟩ := hv
  have hx := B.exec
  have hb := B.bytes
  have hr := B.returns
  have hts := atoms_spec (ws := ws_SS_flex) B.pre
  have ht : ∀ w ∈ zw_tbl, w.before _ s = true := fun w h => hts w (List.mem_cons_of_mem _ h)
  have hown : s.vm.findClass R_SS = some m.cls := findClass_of_methodNamed B.named
  have hlocks := B.notSynchronized
  subst hsz
  have hD := hD0.self (sz := s.heap.size)
  generalize hAe : va_A (cw cI cJ cG cZ a fi fl ai al) s.heap.size = A at hD ⊢
  have hA : ∀ q : Nat, s.heap.size ≤ q → A q := fun q h => by rw [← hAe]; exact Or.inr h
  have hS : va_S A s.heap s.heap [] := va_S.rf
  have hl := lv_entry ([.ref (a 0), .int p0, .int p1, .int p2, .int p3] : List Value) (n := 5) (Nat.le_of_ble_eq_true rfl)
  rw [lg_entry_eq]
  generalize (lg_sl ([.ref (a 0), .int p0, .int p1, .int p2, .int p3] : List Value) ++ List.replicate (5 - (lg_sl ([.ref (a 0), .int p0, .int p1, .int p2, .int p3] : List Value)).length) Slot.unset).toArray = ls at hl ⊢
  have hl : lv_has ls 5 [(0, .ref (a 0)), (1, .int p0), (2, .int p1), (3, .int p2), (4, .int p3)] := hl
  unfold SS_flex_w at hw
  obtain ⟨H, hH⟩ : ∃ H, H = s.heap := ⟨_, rfl⟩
  obtain ⟨locs, hlo⟩ : ∃ q : List Loc, q = [] := ⟨_, rfl⟩
  have hP : va_P (dC, dI) vwCl (cw cI cJ cG cZ a fi fl ai al) H := by rw [hH]; exact hP
  have hS : va_S A s.heap H locs := by rw [hH, hlo]; exact hS
  have key : W p l e (headSpec ws_SS_flex ({ frames := 2, cells := 0, slots := 0, locals := 43 })).room s m ([.ref (a 0), .int p0, .int p1, .int p2, .int p3] : List Value).toArray below meth c H locs 0 0 (MQ below (va_Qi (fun r (u : zw_Z) => (zw_k_air fi fl al K) r u.1 u.2.1 u.2.2.1 u.2.2.2) (fun u t => zw_E (dC, dI) vwCl [(cI, .int), (cJ, .long), (cG, .array .int), (cZ, .boolean)] A (cw cI cJ cG cZ a u.1 u.2.1 u.2.2.1 u.2.2.2) t) A) ([.ref (a 0), .int p0, .int p1, .int p2, .int p3] : List Value).toArray s 0 0 A) (F0 m 0 ls []) := by
    refine lv_iload_n hx hb d_SS_flex_0 rfl (lv_at hl 1 rfl) ?_
    refine lv_iconst (v := (0 : Int32)) hx hb d_SS_flex_1 (by decide) ?_
    refine lv_bipush (v := (7 : Int32)) hx hb d_SS_flex_2 (by decide) ?_
    refine vp_callSi (va_Run.run (va_runS (As := [.int p0, .int (0 : Int32), .int (7 : Int32)]) (rest := []) ⟨hx, hb, hml, hown, hts⟩ (c_SS_within l p0 (0 : Int32) (7 : Int32) _ hw) (va_cwS 3 hts (zw_goodS kw_281 kw_279 kw_1 kw_280) rfl rfl rfl hd_SS_within.2 ⟨Nat.le_of_ble_eq_true rfl, Nat.le_of_ble_eq_true rfl⟩) zw_preS0 rfl rfl hl.1 rfl (lv_room (Nat.le_of_ble_eq_true rfl)) d_SS_flex_4 ⟨Nat.le_of_ble_eq_true rfl, Nat.le_of_ble_eq_true rfl⟩)) (fun r4 hw => ?_)
    refine lv_if_eq (tgt := 40) hx hb d_SS_flex_7 (by decide) (fun c7 => ?_) (fun c7 => ?_)
    · have hw := zw_ite_t c7 hw
      refine lv_iconst (v := (0 : Int32)) hx hb d_SS_flex_40 (by decide) ?_
      exact W.zret (v := (0 : Int32)) (ty := .boolean) hx hb hr rfl (fun t ht hW => ⟨⟨(0 : Int32), (fi, fl, ai, al), rfl, ⟨rfl, rfl, rfl, hw⟩, by rw [ht]; exact hP, va_K.moved hW.alike hK, hD⟩, hS.F ht⟩) hS.2.2 d_SS_flex_41
    · have hw := zw_ite_f c7 hw
      refine lv_aload_n hx hb d_SS_flex_10 rfl (lv_at hl 0 rfl) ?_
      refine va_get (D := (dC, dI)) (ci := 0) (v := .ref (a 19)) (C := R_SS) (T := T_SS) (N := 9) hx hb ht in_SS hown hK hP 0 rfl rfl 0 (by decide) (ht _ kw_242) (fun _ h9 => h9) rfl d_SS_flex_11 ?_
      refine lv_iload_n hx hb d_SS_flex_14 rfl (lv_at hl 2 rfl) ?_
      refine vp_callSi (va_Run.run (va_runV (As := [.int p1]) (rest := []) ⟨hx, hb, hml, hown, hts⟩ (c_Gi_hasPart l dC dI cI cJ cG cZ a fi fl ai al p1 _ hw) (cwV 1 hts (zw_goodV kw_274 kw_275 kw_276 kw_5 kw_277) rfl rfl rfl hd_Gi_hasPart ⟨Nat.le_of_ble_eq_true rfl, Nat.le_of_ble_eq_true rfl⟩) (zw_preV (ci := 2) (q0 := 19) hK hN hP rfl rfl) rfl rfl hl.1 rfl (lv_room (Nat.le_of_ble_eq_true rfl)) d_SS_flex_15 ⟨Nat.le_of_ble_eq_true rfl, Nat.le_of_ble_eq_true rfl⟩)) (fun r15 hw => ?_)
      refine lv_if_eq (tgt := 40) hx hb d_SS_flex_18 (by decide) (fun c18 => ?_) (fun c18 => ?_)
      · have hw := zw_ite_t c18 hw
        refine lv_iconst (v := (0 : Int32)) hx hb d_SS_flex_40 (by decide) ?_
        exact W.zret (v := (0 : Int32)) (ty := .boolean) hx hb hr rfl (fun t ht hW => ⟨⟨(0 : Int32), (fi, fl, ai, al), rfl, ⟨rfl, rfl, rfl, hw⟩, by rw [ht]; exact hP, va_K.moved hW.alike hK, hD⟩, hS.F ht⟩) hS.2.2 d_SS_flex_41
      · have hw := zw_ite_f c18 hw
        refine lv_aload_n hx hb d_SS_flex_21 rfl (lv_at hl 0 rfl) ?_
        refine va_get (D := (dC, dI)) (ci := 0) (v := .ref (a 19)) (C := R_SS) (T := T_SS) (N := 9) hx hb ht in_SS hown hK hP 0 rfl rfl 0 (by decide) (ht _ kw_242) (fun _ h9 => h9) rfl d_SS_flex_22 ?_
        refine lv_iload_n hx hb d_SS_flex_25 rfl (lv_at hl 3 rfl) ?_
        refine vp_callSi (va_Run.run (va_runV (As := [.int p2]) (rest := []) ⟨hx, hb, hml, hown, hts⟩ (c_Gi_hasPart l dC dI cI cJ cG cZ a fi fl ai al p2 _ hw) (cwV 1 hts (zw_goodV kw_274 kw_275 kw_276 kw_5 kw_277) rfl rfl rfl hd_Gi_hasPart ⟨Nat.le_of_ble_eq_true rfl, Nat.le_of_ble_eq_true rfl⟩) (zw_preV (ci := 2) (q0 := 19) hK hN hP rfl rfl) rfl rfl hl.1 rfl (lv_room (Nat.le_of_ble_eq_true rfl)) d_SS_flex_26 ⟨Nat.le_of_ble_eq_true rfl, Nat.le_of_ble_eq_true rfl⟩)) (fun r26 hw => ?_)
        refine lv_if_eq (tgt := 40) hx hb d_SS_flex_29 (by decide) (fun c29 => ?_) (fun c29 => ?_)
        · have hw := zw_ite_t c29 hw
          refine lv_iconst (v := (0 : Int32)) hx hb d_SS_flex_40 (by decide) ?_
          exact W.zret (v := (0 : Int32)) (ty := .boolean) hx hb hr rfl (fun t ht hW => ⟨⟨(0 : Int32), (fi, fl, ai, al), rfl, ⟨rfl, rfl, rfl, hw⟩, by rw [ht]; exact hP, va_K.moved hW.alike hK, hD⟩, hS.F ht⟩) hS.2.2 d_SS_flex_41
        · have hw := zw_ite_f c29 hw
          refine lv_iload hx hb d_SS_flex_32 (lv_at hl 4 rfl) ?_
          refine vp_callSi (va_Run.run (va_runS (As := [.int p3]) (rest := []) ⟨hx, hb, hml, hown, hts⟩ (c_SS_isFactor l p3 _ hw) (va_cwS 1 hts (zw_goodS kw_288 kw_289 kw_1 kw_290) rfl rfl rfl hd_SS_isFactor.2 ⟨Nat.le_of_ble_eq_true rfl, Nat.le_of_ble_eq_true rfl⟩) zw_preS0 rfl rfl hl.1 rfl (lv_room (Nat.le_of_ble_eq_true rfl)) d_SS_flex_34 ⟨Nat.le_of_ble_eq_true rfl, Nat.le_of_ble_eq_true rfl⟩)) (fun r34 hw => ?_)
          refine lv_if_ne (tgt := 42) hx hb d_SS_flex_37 (by decide) (fun c37 => ?_) (fun c37 => ?_)
          · have hw := zw_ite_f c37 hw
            refine lv_aload_n hx hb d_SS_flex_42 rfl (lv_at hl 0 rfl) ?_
            refine va_get (D := (dC, dI)) (ci := 0) (v := .ref (a 19)) (C := R_SS) (T := T_SS) (N := 9) hx hb ht in_SS hown hK hP 0 rfl rfl 0 (by decide) (ht _ kw_242) (fun _ h9 => h9) rfl d_SS_flex_43 ?_
            refine va_get (D := (dC, dI)) (ci := 2) (v := .ref (a 22)) (C := R_Gi) (T := T_Gi) (N := 7) hx hb ht in_Gi hown hK hP 19 rfl rfl 3 (by decide) (ht _ kw_144) (fun _ h9 => h9) rfl d_SS_flex_46 ?_
            refine lv_iload_n hx hb d_SS_flex_49 rfl (lv_at hl 1 rfl) ?_
            obtain ⟨h50, hw⟩ := hw
            refine zw_aald (b := a (23 + p0.toNatClampNeg)) hx hb hK hP 22 2 rfl rfl h50 (if_pos (zw_lt h50)) d_SS_flex_50 ?_
            refine lv_iload_n hx hb d_SS_flex_51 rfl (lv_at hl 2 rfl) ?_
            refine lv_bipush (v := (6 : Int32)) hx hb d_SS_flex_52 (by decide) ?_
            refine lv_imul hx hb d_SS_flex_54 ?_
            refine lv_iload_n hx hb d_SS_flex_55 rfl (lv_at hl 3 rfl) ?_
            refine lv_iadd hx hb d_SS_flex_56 ?_
            refine lv_iload hx hb d_SS_flex_57 (lv_at hl 4 rfl) ?_
            obtain ⟨h59, hw⟩ := hw
            refine va_iast (f := ai (23 + p0.toNatClampNeg)) hx hb hK hP hD hS (23 + p0.toNatClampNeg) 0 (cw_row22 _ _ _ _ _ _ _ _ _ _ (zw_lt h50)) rfl h59 d_SS_flex_59 (fun H locs hP hD hS => ?_)
            have hP := cwp_row22 (zw_lt h50) hP
            have hD := cwd_row22 (zw_lt h50) hD
            obtain ⟨ai_59, eai_59⟩ : ∃ z, z = va_up ai (23 + p0.toNatClampNeg) (upd (ai (23 + p0.toNatClampNeg)) ((p1 * (6 : Int32)) + p2).toNatClampNeg p3) := ⟨_, rfl⟩
            rw [← eai_59] at hP hD
            have hw := zw_nm_x eai_59 hw
            refine lv_iconst (v := (1 : Int32)) hx hb d_SS_flex_60 (by decide) ?_
            exact W.zret (v := (1 : Int32)) (ty := .boolean) hx hb hr rfl (fun t ht hW => ⟨⟨(1 : Int32), (fi, fl, ai_59, al), rfl, ⟨rfl, rfl, rfl, hw⟩, by rw [ht]; exact hP, va_K.moved hW.alike hK, hD⟩, hS.F ht⟩) hS.2.2 d_SS_flex_61
          · have hw := zw_ite_t c37 hw
            refine lv_iconst (v := (0 : Int32)) hx hb d_SS_flex_40 (by decide) ?_
            exact W.zret (v := (0 : Int32)) (ty := .boolean) hx hb hr rfl (fun t ht hW => ⟨⟨(0 : Int32), (fi, fl, ai, al), rfl, ⟨rfl, rfl, rfl, hw⟩, by rw [ht]; exact hP, va_K.moved hW.alike hK, hD⟩, hS.F ht⟩) hS.2.2 d_SS_flex_41
  rw [hH, hlo] at key
  exact key
def SS_isSupport_w (p0 : Int32) (K : Int32 → Prop) : Prop :=
  SS_within_w p0 (0 : Int32) (2 : Int32) (fun (r3 : Int32) =>
  zw_bool r3 ∧ (K r3))
theorem d_SS_isSupport_0 : decode b_SS_isSupport 0 = .ok (.iload_n 0, 1) := by decide +kernel
theorem d_SS_isSupport_1 : decode b_SS_isSupport 1 = .ok (.iconst 0, 1) := by decide +kernel
theorem d_SS_isSupport_2 : decode b_SS_isSupport 2 = .ok (.iconst 2, 1) := by decide +kernel
theorem d_SS_isSupport_3 : decode b_SS_isSupport 3 = .ok (.invokestatic 81, 3) := by decide +kernel
theorem d_SS_isSupport_6 : decode b_SS_isSupport 6 = .ok (.ireturn, 1) := by decide +kernel
set_option maxHeartbeats 4000000 in
set_option maxRecDepth 100000 in
theorem c_SS_isSupport (l : Launch) (p0 : Int32) (K : Int32 → Prop) (hw : SS_isSupport_w p0 K) : Met l y_SS_isSupport ws_SS_isSupport ({ frames := 1, cells := 0, slots := 0, locals := 22 }) (va_Pc [.int p0] (fun _ => True)) (vp_Si K) 0 0 (fun _ => False) := by
  refine Met.ofW (cc := b_SS_isSupport) (maxL := 1) (ret := (Option.some FieldType.boolean)) (by decide) rfl ?_
  intro p e s m args below meth c s₁ B hml hv
  obtain ⟨rfl, -⟩ := hv
  have hx := B.exec
  have hb := B.bytes
  have hr := B.returns
  have hts := atoms_spec (ws := ws_SS_isSupport) B.pre
  have ht : ∀ w ∈ zw_tbl, w.before _ s = true := fun w h => hts w (List.mem_cons_of_mem _ h)
  have hown : s.vm.findClass R_SS = some m.cls := findClass_of_methodNamed B.named
  have hlocks := B.notSynchronized
  have hl := lv_entry ([.int p0] : List Value) (n := 1) (Nat.le_of_ble_eq_true rfl)
  rw [lg_entry_eq]
  generalize (lg_sl ([.int p0] : List Value) ++ List.replicate (1 - (lg_sl ([.int p0] : List Value)).length) Slot.unset).toArray = ls at hl ⊢
  have hl : lv_has ls 1 [(0, .int p0)] := hl
  unfold SS_isSupport_w at hw
  refine lv_iload_n hx hb d_SS_isSupport_0 rfl (lv_at hl 0 rfl) ?_
  refine lv_iconst (v := (0 : Int32)) hx hb d_SS_isSupport_1 (by decide) ?_
  refine lv_iconst (v := (2 : Int32)) hx hb d_SS_isSupport_2 (by decide) ?_
  refine vp_callSi (va_Run.run (va_runS (As := [.int p0, .int (0 : Int32), .int (2 : Int32)]) (rest := []) ⟨hx, hb, hml, hown, hts⟩ (c_SS_within l p0 (0 : Int32) (2 : Int32) _ hw) (va_cwS 3 hts (zw_goodS kw_281 kw_279 kw_1 kw_280) rfl rfl rfl hd_SS_within.2 ⟨Nat.le_of_ble_eq_true rfl, Nat.le_of_ble_eq_true rfl⟩) zw_preS0 rfl rfl hl.1 rfl (lv_room (Nat.le_of_ble_eq_true rfl)) d_SS_isSupport_3 ⟨Nat.le_of_ble_eq_true rfl, Nat.le_of_ble_eq_true rfl⟩)) (fun r3 hw => ?_)
  obtain ⟨hz, hw⟩ := hw
  exact W.zret (v := r3) (ty := .boolean) hx hb hr (zw_bool_n hz) (fun t ht hW => ⟨r3, rfl, hw, ht⟩) t_nil d_SS_isSupport_6
def SS_share_w (fi : Nat → Int32) (fl : Nat → Int64) (ai : Nat → Nat → Int32) (al : Nat → Nat → Int64) (p0 : Int32) (p1 : Int32) (p2 : Int32) (K : Int32 → (Nat → Nat → Int32) → Prop) : Prop :=
  SS_isSupport_w p0 (fun (r1 : Int32) =>
  if r1 = 0 then (
    K (0 : Int32) ai)
  else (
    Gi_hasPart_w fi fl ai al p1 (fun (r12 : Int32) =>
    if r12 = 0 then (
      K (0 : Int32) ai)
    else (
      SS_isFactor_w p2 (fun (r19 : Int32) =>
      if r19 = 0 then (
        K (0 : Int32) ai)
      else (
        vp_in p0 3 ∧ (
        vp_in p1 6 ∧ (zw_nm (va_up ai (32 + p0.toNatClampNeg) (upd (ai (32 + p0.toNatClampNeg)) p1.toNatClampNeg p2)) (fun (ai_38 : Nat → Nat → Int32) =>
        K (1 : Int32) ai_38)))))))))
theorem d_SS_share_0 : decode b_SS_share 0 = .ok (.iload_n 1, 1) := by decide +kernel
theorem d_SS_share_1 : decode b_SS_share 1 = .ok (.invokestatic 101, 3) := by decide +kernel
theorem d_SS_share_4 : decode b_SS_share 4 = .ok (.ifCond .eq (21), 3) := by decide +kernel
theorem d_SS_share_7 : decode b_SS_share 7 = .ok (.aload_n 0, 1) := by decide +kernel
theorem d_SS_share_8 : decode b_SS_share 8 = .ok (.getfield 55, 3) := by decide +kernel
theorem d_SS_share_11 : decode b_SS_share 11 = .ok (.iload_n 2, 1) := by decide +kernel
theorem d_SS_share_12 : decode b_SS_share 12 = .ok (.invokevirtual 77, 3) := by decide +kernel
theorem d_SS_share_15 : decode b_SS_share 15 = .ok (.ifCond .eq (10), 3) := by decide +kernel
theorem d_SS_share_18 : decode b_SS_share 18 = .ok (.iload_n 3, 1) := by decide +kernel
theorem d_SS_share_19 : decode b_SS_share 19 = .ok (.invokestatic 94, 3) := by decide +kernel
theorem d_SS_share_22 : decode b_SS_share 22 = .ok (.ifCond .ne (5), 3) := by decide +kernel
theorem d_SS_share_25 : decode b_SS_share 25 = .ok (.iconst 0, 1) := by decide +kernel
theorem d_SS_share_26 : decode b_SS_share 26 = .ok (.ireturn, 1) := by decide +kernel
theorem d_SS_share_27 : decode b_SS_share 27 = .ok (.aload_n 0, 1) := by decide +kernel
theorem d_SS_share_28 : decode b_SS_share 28 = .ok (.getfield 55, 3) := by decide +kernel
theorem d_SS_share_31 : decode b_SS_share 31 = .ok (.getfield 104, 3) := by decide +kernel
theorem d_SS_share_34 : decode b_SS_share 34 = .ok (.iload_n 1, 1) := by decide +kernel
theorem d_SS_share_35 : decode b_SS_share 35 = .ok (.aaload, 1) := by decide +kernel
theorem d_SS_share_36 : decode b_SS_share 36 = .ok (.iload_n 2, 1) := by decide +kernel
theorem d_SS_share_37 : decode b_SS_share 37 = .ok (.iload_n 3, 1) := by decide +kernel
theorem d_SS_share_38 : decode b_SS_share 38 = .ok (.iastore, 1) := by decide +kernel
theorem d_SS_share_39 : decode b_SS_share 39 = .ok (.iconst 1, 1) := by decide +kernel
theorem d_SS_share_40 : decode b_SS_share 40 = .ok (.ireturn, 1) := by decide +kernel
set_option maxHeartbeats 4000000 in
set_option maxRecDepth 100000 in
theorem c_SS_share (l : Launch) (dC : Nat → ClassId) (dI : Nat → Nat → Nat) (cI cJ cG cZ : ClassId) (a : Nat → Nat) (sz : Nat) (fi : Nat → Int32) (fl : Nat → Int64) (ai : Nat → Nat → Int32) (al : Nat → Nat → Int64) (p0 : Int32) (p1 : Int32) (p2 : Int32) (K : Int32 → (Nat → Nat → Int32) → Prop) (hw : SS_share_w fi fl ai al p0 p1 p2 K) : Met l y_SS_share ws_SS_share ({ frames := 2, cells := 0, slots := 0, locals := 43 }) (va_Pc [.ref (a 0), .int p0, .int p1, .int p2] (zw_Bw (dC, dI) vwCl [(cI, .int), (cJ, .long), (cG, .array .int), (cZ, .boolean)] (cw cI cJ cG cZ a fi fl ai al) sz)) (va_Qi (fun r (u : zw_Z) => (zw_k_air fi fl al K) r u.1 u.2.1 u.2.2.1 u.2.2.2) (fun u t => zw_E (dC, dI) vwCl [(cI, .int), (cJ, .long), (cG, .array .int), (cZ, .boolean)] (va_A (cw cI cJ cG cZ a fi fl ai al) sz) (cw cI cJ cG cZ a u.1 u.2.1 u.2.2.1 u.2.2.2) t) (va_A (cw cI cJ cG cZ a fi fl ai al) sz)) 0 0 (va_A (cw cI cJ cG cZ a fi fl ai al) sz) := by
  refine Met.ofW (cc := b_SS_share) (maxL := 4) (ret := (Option.some FieldType.boolean)) (by decide) rfl ?_
  intro p e s m args below meth c s₁ B hml hv
  obtain ⟨rfl, hsz, hP, hK, hD0, hN⟩ := hv
  have hx := B.exec
  have hb := B.bytes
  have hr := B.returns
  have hts := atoms_spec (ws := ws_SS_share) B.pre
  have ht : ∀ w ∈ zw_tbl, w.before _ s = true := fun w h => hts w (List.mem_cons_of_mem _ h)
  have hown : s.vm.findClass R_SS = some m.cls := findClass_of_methodNamed B.named
  have hlocks := B.notSynchronized
  subst hsz
  have hD := hD0.self (sz := s.heap.size)
  generalize hAe : va_A (cw cI cJ cG cZ a fi fl ai al) s.heap.size = A at hD ⊢
  have hA : ∀ q : Nat, s.heap.size ≤ q → A q := fun q h => by rw [← hAe]; exact Or.inr h
  have hS : va_S A s.heap s.heap [] := va_S.rf
  have hl := lv_entry ([.ref (a 0), .int p0, .int p1, .int p2] : List Value) (n := 4) (Nat.le_of_ble_eq_true rfl)
  rw [lg_entry_eq]
  generalize (lg_sl ([.ref (a 0), .int p0, .int p1, .int p2] : List Value) ++ List.replicate (4 - (lg_sl ([.ref (a 0), .int p0, .int p1, .int p2] : List Value)).length) Slot.unset).toArray = ls at hl ⊢
  have hl : lv_has ls 4 [(0, .ref (a 0)), (1, .int p0), (2, .int p1), (3, .int p2)] := hl
  unfold SS_share_w at hw
  obtain ⟨H, hH⟩ : ∃ H, H = s.heap := ⟨_, rfl⟩
  obtain ⟨locs, hlo⟩ : ∃ q : List Loc, q = [] := ⟨_, rfl⟩
  have hP : va_P (dC, dI) vwCl (cw cI cJ cG cZ a fi fl ai al) H := by rw [hH]; exact hP
  have hS : va_S A s.heap H locs := by rw [hH, hlo]; exact hS
  have key : W p l e (headSpec ws_SS_share ({ frames := 2, cells := 0, slots := 0, locals := 43 })).room s m ([.ref (a 0), .int p0, .int p1, .int p2] : List Value).toArray below meth c H locs 0 0 (MQ below (va_Qi (fun r (u : zw_Z) => (zw_k_air fi fl al K) r u.1 u.2.1 u.2.2.1 u.2.2.2) (fun u t => zw_E (dC, dI) vwCl [(cI, .int), (cJ, .long), (cG, .array .int), (cZ, .boolean)] A (cw cI cJ cG cZ a u.1 u.2.1 u.2.2.1 u.2.2.2) t) A) ([.ref (a 0), .int p0, .int p1, .int p2] : List Value).toArray s 0 0 A) (F0 m 0 ls []) := by
    refine lv_iload_n hx hb d_SS_share_0 rfl (lv_at hl 1 rfl) ?_
    refine vp_callSi (va_Run.run (va_runS (As := [.int p0]) (rest := []) ⟨hx, hb, hml, hown, hts⟩ (c_SS_isSupport l p0 _ hw) (va_cwS 1 hts (zw_goodS kw_295 kw_296 kw_1 kw_297) rfl rfl rfl hd_SS_isSupport.2 ⟨Nat.le_of_ble_eq_true rfl, Nat.le_of_ble_eq_true rfl⟩) zw_preS0 rfl rfl hl.1 rfl (lv_room (Nat.le_of_ble_eq_true rfl)) d_SS_share_1 ⟨Nat.le_of_ble_eq_true rfl, Nat.le_of_ble_eq_true rfl⟩)) (fun r1 hw => ?_)
    refine lv_if_eq (tgt := 25) hx hb d_SS_share_4 (by decide) (fun c4 => ?_) (fun c4 => ?_)
    · have hw := zw_ite_t c4 hw
      refine lv_iconst (v := (0 : Int32)) hx hb d_SS_share_25 (by decide) ?_
      exact W.zret (v := (0 : Int32)) (ty := .boolean) hx hb hr rfl (fun t ht hW => ⟨⟨(0 : Int32), (fi, fl, ai, al), rfl, ⟨rfl, rfl, rfl, hw⟩, by rw [ht]; exact hP, va_K.moved hW.alike hK, hD⟩, hS.F ht⟩) hS.2.2 d_SS_share_26
    · have hw := zw_ite_f c4 hw
      refine lv_aload_n hx hb d_SS_share_7 rfl (lv_at hl 0 rfl) ?_
      refine va_get (D := (dC, dI)) (ci := 0) (v := .ref (a 19)) (C := R_SS) (T := T_SS) (N := 9) hx hb ht in_SS hown hK hP 0 rfl rfl 0 (by decide) (ht _ kw_242) (fun _ h9 => h9) rfl d_SS_share_8 ?_
      refine lv_iload_n hx hb d_SS_share_11 rfl (lv_at hl 2 rfl) ?_
      refine vp_callSi (va_Run.run (va_runV (As := [.int p1]) (rest := []) ⟨hx, hb, hml, hown, hts⟩ (c_Gi_hasPart l dC dI cI cJ cG cZ a fi fl ai al p1 _ hw) (cwV 1 hts (zw_goodV kw_274 kw_275 kw_276 kw_5 kw_277) rfl rfl rfl hd_Gi_hasPart ⟨Nat.le_of_ble_eq_true rfl, Nat.le_of_ble_eq_true rfl⟩) (zw_preV (ci := 2) (q0 := 19) hK hN hP rfl rfl) rfl rfl hl.1 rfl (lv_room (Nat.le_of_ble_eq_true rfl)) d_SS_share_12 ⟨Nat.le_of_ble_eq_true rfl, Nat.le_of_ble_eq_true rfl⟩)) (fun r12 hw => ?_)
      refine lv_if_eq (tgt := 25) hx hb d_SS_share_15 (by decide) (fun c15 => ?_) (fun c15 => ?_)
      · have hw := zw_ite_t c15 hw
        refine lv_iconst (v := (0 : Int32)) hx hb d_SS_share_25 (by decide) ?_
        exact W.zret (v := (0 : Int32)) (ty := .boolean) hx hb hr rfl (fun t ht hW => ⟨⟨(0 : Int32), (fi, fl, ai, al), rfl, ⟨rfl, rfl, rfl, hw⟩, by rw [ht]; exact hP, va_K.moved hW.alike hK, hD⟩, hS.F ht⟩) hS.2.2 d_SS_share_26
      · have hw := zw_ite_f c15 hw
        refine lv_iload_n hx hb d_SS_share_18 rfl (lv_at hl 3 rfl) ?_
        refine vp_callSi (va_Run.run (va_runS (As := [.int p2]) (rest := []) ⟨hx, hb, hml, hown, hts⟩ (c_SS_isFactor l p2 _ hw) (va_cwS 1 hts (zw_goodS kw_288 kw_289 kw_1 kw_290) rfl rfl rfl hd_SS_isFactor.2 ⟨Nat.le_of_ble_eq_true rfl, Nat.le_of_ble_eq_true rfl⟩) zw_preS0 rfl rfl hl.1 rfl (lv_room (Nat.le_of_ble_eq_true rfl)) d_SS_share_19 ⟨Nat.le_of_ble_eq_true rfl, Nat.le_of_ble_eq_true rfl⟩)) (fun r19 hw => ?_)
        refine lv_if_ne (tgt := 27) hx hb d_SS_share_22 (by decide) (fun c22 => ?_) (fun c22 => ?_)
        · have hw := zw_ite_f c22 hw
          refine lv_aload_n hx hb d_SS_share_27 rfl (lv_at hl 0 rfl) ?_
          refine va_get (D := (dC, dI)) (ci := 0) (v := .ref (a 19)) (C := R_SS) (T := T_SS) (N := 9) hx hb ht in_SS hown hK hP 0 rfl rfl 0 (by decide) (ht _ kw_242) (fun _ h9 => h9) rfl d_SS_share_28 ?_
          refine va_get (D := (dC, dI)) (ci := 2) (v := .ref (a 31)) (C := R_Gi) (T := T_Gi) (N := 7) hx hb ht in_Gi hown hK hP 19 rfl rfl 4 (by decide) (ht _ kw_147) (fun _ h9 => h9) rfl d_SS_share_31 ?_
          refine lv_iload_n hx hb d_SS_share_34 rfl (lv_at hl 1 rfl) ?_
          obtain ⟨h35, hw⟩ := hw
          refine zw_aald (b := a (32 + p0.toNatClampNeg)) hx hb hK hP 31 2 rfl rfl h35 (if_pos (zw_lt h35)) d_SS_share_35 ?_
          refine lv_iload_n hx hb d_SS_share_36 rfl (lv_at hl 2 rfl) ?_
          refine lv_iload_n hx hb d_SS_share_37 rfl (lv_at hl 3 rfl) ?_
          obtain ⟨h38, hw⟩ := hw
          refine va_iast (f := ai (32 + p0.toNatClampNeg)) hx hb hK hP hD hS (32 + p0.toNatClampNeg) 0 (cw_row31 _ _ _ _ _ _ _ _ _ _ (zw_lt h35)) rfl h38 d_SS_share_38 (fun H locs hP hD hS => ?_)
          have hP := cwp_row31 (zw_lt h35) hP
          have hD := cwd_row31 (zw_lt h35) hD
          obtain ⟨ai_38, eai_38⟩ : ∃ z, z = va_up ai (32 + p0.toNatClampNeg) (upd (ai (32 + p0.toNatClampNeg)) p1.toNatClampNeg p2) := ⟨_, rfl⟩
          rw [← eai_38] at hP hD
          have hw := zw_nm_x eai_38 hw
          refine lv_iconst (v := (1 : Int32)) hx hb d_SS_share_39 (by decide) ?_
          exact W.zret (v := (1 : Int32)) (ty := .boolean) hx hb hr rfl (fun t ht hW => ⟨⟨(1 : Int32), (fi, fl, ai_38, al), rfl, ⟨rfl, rfl, rfl, hw⟩, by rw [ht]; exact hP, va_K.moved hW.alike hK, hD⟩, hS.F ht⟩) hS.2.2 d_SS_share_40
        · have hw := zw_ite_t c22 hw
          refine lv_iconst (v := (0 : Int32)) hx hb d_SS_share_25 (by decide) ?_
          exact W.zret (v := (0 : Int32)) (ty := .boolean) hx hb hr rfl (fun t ht hW => ⟨⟨(0 : Int32), (fi, fl, ai, al), rfl, ⟨rfl, rfl, rfl, hw⟩, by rw [ht]; exact hP, va_K.moved hW.alike hK, hD⟩, hS.F ht⟩) hS.2.2 d_SS_share_26
  rw [hH, hlo] at key
  exact key
def SS_release_w (fi : Nat → Int32) (fl : Nat → Int64) (ai : Nat → Nat → Int32) (al : Nat → Nat → Int64) (p0 : Int32) (p1 : Int32) (p2 : Int32) (K : Int32 → (Nat → Nat → Int32) → Prop) : Prop :=
  SS_isSupport_w p0 (fun (r1 : Int32) =>
  if r1 = 0 then (
    K (0 : Int32) ai)
  else (
    Gi_hasPart_w fi fl ai al p1 (fun (r12 : Int32) =>
    if r12 = 0 then (
      K (0 : Int32) ai)
    else (
      SS_isFactor_w p2 (fun (r19 : Int32) =>
      if r19 = 0 then (
        K (0 : Int32) ai)
      else (
        vp_in p0 3 ∧ (
        vp_in p1 6 ∧ (zw_nm (va_up ai (36 + p0.toNatClampNeg) (upd (ai (36 + p0.toNatClampNeg)) p1.toNatClampNeg p2)) (fun (ai_38 : Nat → Nat → Int32) =>
        K (1 : Int32) ai_38)))))))))
theorem d_SS_release_0 : decode b_SS_release 0 = .ok (.iload_n 1, 1) := by decide +kernel
theorem d_SS_release_1 : decode b_SS_release 1 = .ok (.invokestatic 101, 3) := by decide +kernel
theorem d_SS_release_4 : decode b_SS_release 4 = .ok (.ifCond .eq (21), 3) := by decide +kernel
theorem d_SS_release_7 : decode b_SS_release 7 = .ok (.aload_n 0, 1) := by decide +kernel
theorem d_SS_release_8 : decode b_SS_release 8 = .ok (.getfield 55, 3) := by decide +kernel
theorem d_SS_release_11 : decode b_SS_release 11 = .ok (.iload_n 2, 1) := by decide +kernel
theorem d_SS_release_12 : decode b_SS_release 12 = .ok (.invokevirtual 77, 3) := by decide +kernel
theorem d_SS_release_15 : decode b_SS_release 15 = .ok (.ifCond .eq (10), 3) := by decide +kernel
theorem d_SS_release_18 : decode b_SS_release 18 = .ok (.iload_n 3, 1) := by decide +kernel
theorem d_SS_release_19 : decode b_SS_release 19 = .ok (.invokestatic 94, 3) := by decide +kernel
theorem d_SS_release_22 : decode b_SS_release 22 = .ok (.ifCond .ne (5), 3) := by decide +kernel
theorem d_SS_release_25 : decode b_SS_release 25 = .ok (.iconst 0, 1) := by decide +kernel
theorem d_SS_release_26 : decode b_SS_release 26 = .ok (.ireturn, 1) := by decide +kernel
theorem d_SS_release_27 : decode b_SS_release 27 = .ok (.aload_n 0, 1) := by decide +kernel
theorem d_SS_release_28 : decode b_SS_release 28 = .ok (.getfield 55, 3) := by decide +kernel
theorem d_SS_release_31 : decode b_SS_release 31 = .ok (.getfield 107, 3) := by decide +kernel
theorem d_SS_release_34 : decode b_SS_release 34 = .ok (.iload_n 1, 1) := by decide +kernel
theorem d_SS_release_35 : decode b_SS_release 35 = .ok (.aaload, 1) := by decide +kernel
theorem d_SS_release_36 : decode b_SS_release 36 = .ok (.iload_n 2, 1) := by decide +kernel
theorem d_SS_release_37 : decode b_SS_release 37 = .ok (.iload_n 3, 1) := by decide +kernel
theorem d_SS_release_38 : decode b_SS_release 38 = .ok (.iastore, 1) := by decide +kernel
theorem d_SS_release_39 : decode b_SS_release 39 = .ok (.iconst 1, 1) := by decide +kernel
theorem d_SS_release_40 : decode b_SS_release 40 = .ok (.ireturn, 1) := by decide +kernel
set_option maxHeartbeats 4000000 in
set_option maxRecDepth 100000 in
theorem c_SS_release (l : Launch) (dC : Nat → ClassId) (dI : Nat → Nat → Nat) (cI cJ cG cZ : ClassId) (a : Nat → Nat) (sz : Nat) (fi : Nat → Int32) (fl : Nat → Int64) (ai : Nat → Nat → Int32) (al : Nat → Nat → Int64) (p0 : Int32) (p1 : Int32) (p2 : Int32) (K : Int32 → (Nat → Nat → Int32) → Prop) (hw : SS_release_w fi fl ai al p0 p1 p2 K) : Met l y_SS_release ws_SS_release ({ frames := 2, cells := 0, slots := 0, locals := 43 }) (va_Pc [.ref (a 0), .int p0, .int p1, .int p2] (zw_Bw (dC, dI) vwCl [(cI, .int), (cJ, .long), (cG, .array .int), (cZ, .boolean)] (cw cI cJ cG cZ a fi fl ai al) sz)) (va_Qi (fun r (u : zw_Z) => (zw_k_air fi fl al K) r u.1 u.2.1 u.2.2.1 u.2.2.2) (fun u t => zw_E (dC, dI) vwCl [(cI, .int), (cJ, .long), (cG, .array .int), (cZ, .boolean)] (va_A (cw cI cJ cG cZ a fi fl ai al) sz) (cw cI cJ cG cZ a u.1 u.2.1 u.2.2.1 u.2.2.2) t) (va_A (cw cI cJ cG cZ a fi fl ai al) sz)) 0 0 (va_A (cw cI cJ cG cZ a fi fl ai al) sz) := by
  refine Met.ofW (cc := b_SS_release) (maxL := 4) (ret := (Option.some FieldType.boolean)) (by decide) rfl ?_
  intro p e s m args below meth c s₁ B hml hv
  obtain ⟨rfl, hsz, hP, hK, hD0, hN⟩ := hv
  have hx := B.exec
  have hb := B.bytes
  have hr := B.returns
  have hts := atoms_spec (ws := ws_SS_release) B.pre
  have ht : ∀ w ∈ zw_tbl, w.before _ s = true := fun w h => hts w (List.mem_cons_of_mem _ h)
  have hown : s.vm.findClass R_SS = some m.cls := findClass_of_methodNamed B.named
  have hlocks := B.notSynchronized
  subst hsz
  have hD := hD0.self (sz := s.heap.size)
  generalize hAe : va_A (cw cI cJ cG cZ a fi fl ai al) s.heap.size = A at hD ⊢
  have hA : ∀ q : Nat, s.heap.size ≤ q → A q := fun q h => by rw [← hAe]; exact Or.inr h
  have hS : va_S A s.heap s.heap [] := va_S.rf
  have hl := lv_entry ([.ref (a 0), .int p0, .int p1, .int p2] : List Value) (n := 4) (Nat.le_of_ble_eq_true rfl)
  rw [lg_entry_eq]
  generalize (lg_sl ([.ref (a 0), .int p0, .int p1, .int p2] : List Value) ++ List.replicate (4 - (lg_sl ([.ref (a 0), .int p0, .int p1, .int p2] : List Value)).length) Slot.unset).toArray = ls at hl ⊢
  have hl : lv_has ls 4 [(0, .ref (a 0)), (1, .int p0), (2, .int p1), (3, .int p2)] := hl
  unfold SS_release_w at hw
  obtain ⟨H, hH⟩ : ∃ H, H = s.heap := ⟨_, rfl⟩
  obtain ⟨locs, hlo⟩ : ∃ q : List Loc, q = [] := ⟨_, rfl⟩
  have hP : va_P (dC, dI) vwCl (cw cI cJ cG cZ a fi fl ai al) H := by rw [hH]; exact hP
  have hS : va_S A s.heap H locs := by rw [hH, hlo]; exact hS
  have key : W p l e (headSpec ws_SS_release ({ frames := 2, cells := 0, slots := 0, locals := 43 })).room s m ([.ref (a 0), .int p0, .int p1, .int p2] : List Value).toArray below meth c H locs 0 0 (MQ below (va_Qi (fun r (u : zw_Z) => (zw_k_air fi fl al K) r u.1 u.2.1 u.2.2.1 u.2.2.2) (fun u t => zw_E (dC, dI) vwCl [(cI, .int), (cJ, .long), (cG, .array .int), (cZ, .boolean)] A (cw cI cJ cG cZ a u.1 u.2.1 u.2.2.1 u.2.2.2) t) A) ([.ref (a 0), .int p0, .int p1, .int p2] : List Value).toArray s 0 0 A) (F0 m 0 ls []) := by
    refine lv_iload_n hx hb d_SS_release_0 rfl (lv_at hl 1 rfl) ?_
    refine vp_callSi (va_Run.run (va_runS (As := [.int p0]) (rest := []) ⟨hx, hb, hml, hown, hts⟩ (c_SS_isSupport l p0 _ hw) (va_cwS 1 hts (zw_goodS kw_295 kw_296 kw_1 kw_297) rfl rfl rfl hd_SS_isSupport.2 ⟨Nat.le_of_ble_eq_true rfl, Nat.le_of_ble_eq_true rfl⟩) zw_preS0 rfl rfl hl.1 rfl (lv_room (Nat.le_of_ble_eq_true rfl)) d_SS_release_1 ⟨Nat.le_of_ble_eq_true rfl, Nat.le_of_ble_eq_true rfl⟩)) (fun r1 hw => ?_)
    refine lv_if_eq (tgt := 25) hx hb d_SS_release_4 (by decide) (fun c4 => ?_) (fun c4 => ?_)
    · have hw := zw_ite_t c4 hw
      refine lv_iconst (v := (0 : Int32)) hx hb d_SS_release_25 (by decide) ?_
      exact W.zret (v := (0 : Int32)) (ty := .boolean) hx hb hr rfl (fun t ht hW => ⟨⟨(0 : Int32), (fi, fl, ai, al), rfl, ⟨rfl, rfl, rfl, hw⟩, by rw [ht]; exact hP, va_K.moved hW.alike hK, hD⟩, hS.F ht⟩) hS.2.2 d_SS_release_26
    · have hw := zw_ite_f c4 hw
      refine lv_aload_n hx hb d_SS_release_7 rfl (lv_at hl 0 rfl) ?_
      refine va_get (D := (dC, dI)) (ci := 0) (v := .ref (a 19)) (C := R_SS) (T := T_SS) (N := 9) hx hb ht in_SS hown hK hP 0 rfl rfl 0 (by decide) (ht _ kw_242) (fun _ h9 => h9) rfl d_SS_release_8 ?_
      refine lv_iload_n hx hb d_SS_release_11 rfl (lv_at hl 2 rfl) ?_
      refine vp_callSi (va_Run.run (va_runV (As := [.int p1]) (rest := []) ⟨hx, hb, hml, hown, hts⟩ (c_Gi_hasPart l dC dI cI cJ cG cZ a fi fl ai al p1 _ hw) (cwV 1 hts (zw_goodV kw_274 kw_275 kw_276 kw_5 kw_277) rfl rfl rfl hd_Gi_hasPart ⟨Nat.le_of_ble_eq_true rfl, Nat.le_of_ble_eq_true rfl⟩) (zw_preV (ci := 2) (q0 := 19) hK hN hP rfl rfl) rfl rfl hl.1 rfl (lv_room (Nat.le_of_ble_eq_true rfl)) d_SS_release_12 ⟨Nat.le_of_ble_eq_true rfl, Nat.le_of_ble_eq_true rfl⟩)) (fun r12 hw => ?_)
      refine lv_if_eq (tgt := 25) hx hb d_SS_release_15 (by decide) (fun c15 => ?_) (fun c15 => ?_)
      · have hw := zw_ite_t c15 hw
        refine lv_iconst (v := (0 : Int32)) hx hb d_SS_release_25 (by decide) ?_
        exact W.zret (v := (0 : Int32)) (ty := .boolean) hx hb hr rfl (fun t ht hW => ⟨⟨(0 : Int32), (fi, fl, ai, al), rfl, ⟨rfl, rfl, rfl, hw⟩, by rw [ht]; exact hP, va_K.moved hW.alike hK, hD⟩, hS.F ht⟩) hS.2.2 d_SS_release_26
      · have hw := zw_ite_f c15 hw
        refine lv_iload_n hx hb d_SS_release_18 rfl (lv_at hl 3 rfl) ?_
        refine vp_callSi (va_Run.run (va_runS (As := [.int p2]) (rest := []) ⟨hx, hb, hml, hown, hts⟩ (c_SS_isFactor l p2 _ hw) (va_cwS 1 hts (zw_goodS kw_288 kw_289 kw_1 kw_290) rfl rfl rfl hd_SS_isFactor.2 ⟨Nat.le_of_ble_eq_true rfl, Nat.le_of_ble_eq_true rfl⟩) zw_preS0 rfl rfl hl.1 rfl (lv_room (Nat.le_of_ble_eq_true rfl)) d_SS_release_19 ⟨Nat.le_of_ble_eq_true rfl, Nat.le_of_ble_eq_true rfl⟩)) (fun r19 hw => ?_)
        refine lv_if_ne (tgt := 27) hx hb d_SS_release_22 (by decide) (fun c22 => ?_) (fun c22 => ?_)
        · have hw := zw_ite_f c22 hw
          refine lv_aload_n hx hb d_SS_release_27 rfl (lv_at hl 0 rfl) ?_
          refine va_get (D := (dC, dI)) (ci := 0) (v := .ref (a 19)) (C := R_SS) (T := T_SS) (N := 9) hx hb ht in_SS hown hK hP 0 rfl rfl 0 (by decide) (ht _ kw_242) (fun _ h9 => h9) rfl d_SS_release_28 ?_
          refine va_get (D := (dC, dI)) (ci := 2) (v := .ref (a 35)) (C := R_Gi) (T := T_Gi) (N := 7) hx hb ht in_Gi hown hK hP 19 rfl rfl 5 (by decide) (ht _ kw_150) (fun _ h9 => h9) rfl d_SS_release_31 ?_
          refine lv_iload_n hx hb d_SS_release_34 rfl (lv_at hl 1 rfl) ?_
          obtain ⟨h35, hw⟩ := hw
          refine zw_aald (b := a (36 + p0.toNatClampNeg)) hx hb hK hP 35 2 rfl rfl h35 (if_pos (zw_lt h35)) d_SS_release_35 ?_
          refine lv_iload_n hx hb d_SS_release_36 rfl (lv_at hl 2 rfl) ?_
          refine lv_iload_n hx hb d_SS_release_37 rfl (lv_at hl 3 rfl) ?_
          obtain ⟨h38, hw⟩ := hw
          refine va_iast (f := ai (36 + p0.toNatClampNeg)) hx hb hK hP hD hS (36 + p0.toNatClampNeg) 0 (cw_row35 _ _ _ _ _ _ _ _ _ _ (zw_lt h35)) rfl h38 d_SS_release_38 (fun H locs hP hD hS => ?_)
          have hP := cwp_row35 (zw_lt h35) hP
          have hD := cwd_row35 (zw_lt h35) hD
          obtain ⟨ai_38, eai_38⟩ : ∃ z, z = va_up ai (36 + p0.toNatClampNeg) (upd (ai (36 + p0.toNatClampNeg)) p1.toNatClampNeg p2) := ⟨_, rfl⟩
          rw [← eai_38] at hP hD
          have hw := zw_nm_x eai_38 hw
          refine lv_iconst (v := (1 : Int32)) hx hb d_SS_release_39 (by decide) ?_
          exact W.zret (v := (1 : Int32)) (ty := .boolean) hx hb hr rfl (fun t ht hW => ⟨⟨(1 : Int32), (fi, fl, ai_38, al), rfl, ⟨rfl, rfl, rfl, hw⟩, by rw [ht]; exact hP, va_K.moved hW.alike hK, hD⟩, hS.F ht⟩) hS.2.2 d_SS_release_40
        · have hw := zw_ite_t c22 hw
          refine lv_iconst (v := (0 : Int32)) hx hb d_SS_release_25 (by decide) ?_
          exact W.zret (v := (0 : Int32)) (ty := .boolean) hx hb hr rfl (fun t ht hW => ⟨⟨(0 : Int32), (fi, fl, ai, al), rfl, ⟨rfl, rfl, rfl, hw⟩, by rw [ht]; exact hP, va_K.moved hW.alike hK, hD⟩, hS.F ht⟩) hS.2.2 d_SS_release_26
  rw [hH, hlo] at key
  exact key
def Cr_tell_w (fi : Nat → Int32) (fl : Nat → Int64) (ai : Nat → Nat → Int32) (al : Nat → Nat → Int64) (p0 : Int32) (p1 : Int32) (K : Int32 → (Nat → Int32) → (Nat → Nat → Int32) → Prop) : Prop :=
  if (8 : Int32) ≤ (fi 1) then (
    K (0 : Int32) fi ai)
  else (
    SS_within_w p0 (0 : Int32) (20000 : Int32) (fun (r14 : Int32) =>
    if r14 = 0 then (
      K (0 : Int32) fi ai)
    else (
      SS_within_w p1 (0 : Int32) (5000 : Int32) (fun (r25 : Int32) =>
      if r25 = 0 then (
        K (0 : Int32) fi ai)
      else (
        zw_jn0 (
        vp_in (fi 1) 8 ∧ (zw_nm (va_up ai 2 (upd (ai 2) (fi 1).toNatClampNeg p0)) (fun (ai_81 : Nat → Nat → Int32) =>
        vp_in (fi 1) 8 ∧ (zw_nm (va_up ai_81 3 (upd (ai_81 3) (fi 1).toNatClampNeg p1)) (fun (ai_91 : Nat → Nat → Int32) =>
        zw_nm (va_up fi 1 ((fi 1) + (1 : Int32))) (fun (fi_99 : Nat → Int32) =>
        K (1 : Int32) fi_99 ai_91)))))) (fun J72 =>
        if (fi 1) ≤ 0 then (
          J72)
        else (
          vp_in ((fi 1) - (1 : Int32)) 8 ∧ (
          if p0 ≤ (ai 2 ((fi 1) - (1 : Int32)).toNatClampNeg) then (
            K (0 : Int32) fi ai)
          else (
            vp_in ((fi 1) - (1 : Int32)) 8 ∧ (
            if (ai 3 ((fi 1) - (1 : Int32)).toNatClampNeg) ≤ p1 then (
              J72)
            else (
              K (0 : Int32) fi ai)))))))))))
theorem d_Cr_tell_0 : decode b_Cr_tell 0 = .ok (.aload_n 0, 1) := by decide +kernel
theorem d_Cr_tell_1 : decode b_Cr_tell 1 = .ok (.getfield 18, 3) := by decide +kernel
theorem d_Cr_tell_4 : decode b_Cr_tell 4 = .ok (.bipush (8), 2) := by decide +kernel
theorem d_Cr_tell_6 : decode b_Cr_tell 6 = .ok (.if_icmp .ge (25), 3) := by decide +kernel
theorem d_Cr_tell_9 : decode b_Cr_tell 9 = .ok (.iload_n 1, 1) := by decide +kernel
theorem d_Cr_tell_10 : decode b_Cr_tell 10 = .ok (.iconst 0, 1) := by decide +kernel
theorem d_Cr_tell_11 : decode b_Cr_tell 11 = .ok (.sipush (20000), 3) := by decide +kernel
theorem d_Cr_tell_14 : decode b_Cr_tell 14 = .ok (.invokestatic 22, 3) := by decide +kernel
theorem d_Cr_tell_17 : decode b_Cr_tell 17 = .ok (.ifCond .eq (14), 3) := by decide +kernel
theorem d_Cr_tell_20 : decode b_Cr_tell 20 = .ok (.iload_n 2, 1) := by decide +kernel
theorem d_Cr_tell_21 : decode b_Cr_tell 21 = .ok (.iconst 0, 1) := by decide +kernel
theorem d_Cr_tell_22 : decode b_Cr_tell 22 = .ok (.sipush (5000), 3) := by decide +kernel
theorem d_Cr_tell_25 : decode b_Cr_tell 25 = .ok (.invokestatic 22, 3) := by decide +kernel
theorem d_Cr_tell_28 : decode b_Cr_tell 28 = .ok (.ifCond .ne (5), 3) := by decide +kernel
theorem d_Cr_tell_31 : decode b_Cr_tell 31 = .ok (.iconst 0, 1) := by decide +kernel
theorem d_Cr_tell_32 : decode b_Cr_tell 32 = .ok (.ireturn, 1) := by decide +kernel
theorem d_Cr_tell_33 : decode b_Cr_tell 33 = .ok (.aload_n 0, 1) := by decide +kernel
theorem d_Cr_tell_34 : decode b_Cr_tell 34 = .ok (.getfield 18, 3) := by decide +kernel
theorem d_Cr_tell_37 : decode b_Cr_tell 37 = .ok (.ifCond .le (35), 3) := by decide +kernel
theorem d_Cr_tell_40 : decode b_Cr_tell 40 = .ok (.iload_n 1, 1) := by decide +kernel
theorem d_Cr_tell_41 : decode b_Cr_tell 41 = .ok (.aload_n 0, 1) := by decide +kernel
theorem d_Cr_tell_42 : decode b_Cr_tell 42 = .ok (.getfield 9, 3) := by decide +kernel
theorem d_Cr_tell_45 : decode b_Cr_tell 45 = .ok (.aload_n 0, 1) := by decide +kernel
theorem d_Cr_tell_46 : decode b_Cr_tell 46 = .ok (.getfield 18, 3) := by decide +kernel
theorem d_Cr_tell_49 : decode b_Cr_tell 49 = .ok (.iconst 1, 1) := by decide +kernel
theorem d_Cr_tell_50 : decode b_Cr_tell 50 = .ok (.isub, 1) := by decide +kernel
theorem d_Cr_tell_51 : decode b_Cr_tell 51 = .ok (.iaload, 1) := by decide +kernel
theorem d_Cr_tell_52 : decode b_Cr_tell 52 = .ok (.if_icmp .le (18), 3) := by decide +kernel
theorem d_Cr_tell_55 : decode b_Cr_tell 55 = .ok (.iload_n 2, 1) := by decide +kernel
theorem d_Cr_tell_56 : decode b_Cr_tell 56 = .ok (.aload_n 0, 1) := by decide +kernel
theorem d_Cr_tell_57 : decode b_Cr_tell 57 = .ok (.getfield 15, 3) := by decide +kernel
theorem d_Cr_tell_60 : decode b_Cr_tell 60 = .ok (.aload_n 0, 1) := by decide +kernel
theorem d_Cr_tell_61 : decode b_Cr_tell 61 = .ok (.getfield 18, 3) := by decide +kernel
theorem d_Cr_tell_64 : decode b_Cr_tell 64 = .ok (.iconst 1, 1) := by decide +kernel
theorem d_Cr_tell_65 : decode b_Cr_tell 65 = .ok (.isub, 1) := by decide +kernel
theorem d_Cr_tell_66 : decode b_Cr_tell 66 = .ok (.iaload, 1) := by decide +kernel
theorem d_Cr_tell_67 : decode b_Cr_tell 67 = .ok (.if_icmp .ge (5), 3) := by decide +kernel
theorem d_Cr_tell_70 : decode b_Cr_tell 70 = .ok (.iconst 0, 1) := by decide +kernel
theorem d_Cr_tell_71 : decode b_Cr_tell 71 = .ok (.ireturn, 1) := by decide +kernel
theorem d_Cr_tell_72 : decode b_Cr_tell 72 = .ok (.aload_n 0, 1) := by decide +kernel
theorem d_Cr_tell_73 : decode b_Cr_tell 73 = .ok (.getfield 9, 3) := by decide +kernel
theorem d_Cr_tell_76 : decode b_Cr_tell 76 = .ok (.aload_n 0, 1) := by decide +kernel
theorem d_Cr_tell_77 : decode b_Cr_tell 77 = .ok (.getfield 18, 3) := by decide +kernel
theorem d_Cr_tell_80 : decode b_Cr_tell 80 = .ok (.iload_n 1, 1) := by decide +kernel
theorem d_Cr_tell_81 : decode b_Cr_tell 81 = .ok (.iastore, 1) := by decide +kernel
theorem d_Cr_tell_82 : decode b_Cr_tell 82 = .ok (.aload_n 0, 1) := by decide +kernel
theorem d_Cr_tell_83 : decode b_Cr_tell 83 = .ok (.getfield 15, 3) := by decide +kernel
theorem d_Cr_tell_86 : decode b_Cr_tell 86 = .ok (.aload_n 0, 1) := by decide +kernel
theorem d_Cr_tell_87 : decode b_Cr_tell 87 = .ok (.getfield 18, 3) := by decide +kernel
theorem d_Cr_tell_90 : decode b_Cr_tell 90 = .ok (.iload_n 2, 1) := by decide +kernel
theorem d_Cr_tell_91 : decode b_Cr_tell 91 = .ok (.iastore, 1) := by decide +kernel
theorem d_Cr_tell_92 : decode b_Cr_tell 92 = .ok (.aload_n 0, 1) := by decide +kernel
theorem d_Cr_tell_93 : decode b_Cr_tell 93 = .ok (.dup, 1) := by decide +kernel
theorem d_Cr_tell_94 : decode b_Cr_tell 94 = .ok (.getfield 18, 3) := by decide +kernel
theorem d_Cr_tell_97 : decode b_Cr_tell 97 = .ok (.iconst 1, 1) := by decide +kernel
theorem d_Cr_tell_98 : decode b_Cr_tell 98 = .ok (.iadd, 1) := by decide +kernel
theorem d_Cr_tell_99 : decode b_Cr_tell 99 = .ok (.putfield 18, 3) := by decide +kernel
theorem d_Cr_tell_102 : decode b_Cr_tell 102 = .ok (.iconst 1, 1) := by decide +kernel
theorem d_Cr_tell_103 : decode b_Cr_tell 103 = .ok (.ireturn, 1) := by decide +kernel
set_option maxHeartbeats 4000000 in
set_option maxRecDepth 100000 in
theorem c_Cr_tell (l : Launch) (dC : Nat → ClassId) (dI : Nat → Nat → Nat) (cI cJ cG cZ : ClassId) (a : Nat → Nat) (sz : Nat) (fi : Nat → Int32) (fl : Nat → Int64) (ai : Nat → Nat → Int32) (al : Nat → Nat → Int64) (p0 : Int32) (p1 : Int32) (K : Int32 → (Nat → Int32) → (Nat → Nat → Int32) → Prop) (hw : Cr_tell_w fi fl ai al p0 p1 K) : Met l y_Cr_tell ws_Cr_tell ({ frames := 1, cells := 0, slots := 0, locals := 22 }) (va_Pc [.ref (a 1), .int p0, .int p1] (zw_Bw (dC, dI) vwCl [(cI, .int), (cJ, .long), (cG, .array .int), (cZ, .boolean)] (cw cI cJ cG cZ a fi fl ai al) sz)) (va_Qi (fun r (u : zw_Z) => (zw_k_fi_air fl al K) r u.1 u.2.1 u.2.2.1 u.2.2.2) (fun u t => zw_E (dC, dI) vwCl [(cI, .int), (cJ, .long), (cG, .array .int), (cZ, .boolean)] (va_A (cw cI cJ cG cZ a fi fl ai al) sz) (cw cI cJ cG cZ a u.1 u.2.1 u.2.2.1 u.2.2.2) t) (va_A (cw cI cJ cG cZ a fi fl ai al) sz)) 0 0 (va_A (cw cI cJ cG cZ a fi fl ai al) sz) := by
  refine Met.ofW (cc := b_Cr_tell) (maxL := 3) (ret := (Option.some FieldType.boolean)) (by decide) rfl ?_
  intro p e s m args below meth c s₁ B hml hv
  obtain ⟨rfl, hsz, hP, hK, hD0, hN⟩ := hv
  have hx := B.exec
  have hb := B.bytes
  have hr := B.returns
  have hts := atoms_spec (ws := ws_Cr_tell) B.pre
  have ht : ∀ w ∈ zw_tbl, w.before _ s = true := fun w h => hts w (List.mem_cons_of_mem _ h)
  have hown : s.vm.findClass R_Cr = some m.cls := findClass_of_methodNamed B.named
  have hlocks := B.notSynchronized
  subst hsz
  have hD := hD0.self (sz := s.heap.size)
  generalize hAe : va_A (cw cI cJ cG cZ a fi fl ai al) s.heap.size = A at hD ⊢
  have hA : ∀ q : Nat, s.heap.size ≤ q → A q := fun q h => by rw [← hAe]; exact Or.inr h
  have hS : va_S A s.heap s.heap [] := va_S.rf
  have hl := lv_entry ([.ref (a 1), .int p0, .int p1] : List Value) (n := 3) (Nat.le_of_ble_eq_true rfl)
  rw [lg_entry_eq]
  generalize (lg_sl ([.ref (a 1), .int p0, .int p1] : List Value) ++ List.replicate (3 - (lg_sl ([.ref (a 1), .int p0, .int p1] : List Value)).length) Slot.unset).toArray = ls at hl ⊢
  have hl : lv_has ls 3 [(0, .ref (a 1)), (1, .int p0), (2, .int p1)] := hl
  unfold Cr_tell_w at hw
  obtain ⟨H, hH⟩ : ∃ H, H = s.heap := ⟨_, rfl⟩
  obtain ⟨locs, hlo⟩ : ∃ q : List Loc, q = [] := ⟨_, rfl⟩
  have hP : va_P (dC, dI) vwCl (cw cI cJ cG cZ a fi fl ai al) H := by rw [hH]; exact hP
  have hS : va_S A s.heap H locs := by rw [hH, hlo]; exact hS
  have key : W p l e (headSpec ws_Cr_tell ({ frames := 1, cells := 0, slots := 0, locals := 22 })).room s m ([.ref (a 1), .int p0, .int p1] : List Value).toArray below meth c H locs 0 0 (MQ below (va_Qi (fun r (u : zw_Z) => (zw_k_fi_air fl al K) r u.1 u.2.1 u.2.2.1 u.2.2.2) (fun u t => zw_E (dC, dI) vwCl [(cI, .int), (cJ, .long), (cG, .array .int), (cZ, .boolean)] A (cw cI cJ cG cZ a u.1 u.2.1 u.2.2.1 u.2.2.2) t) A) ([.ref (a 1), .int p0, .int p1] : List Value).toArray s 0 0 A) (F0 m 0 ls []) := by
    refine lv_aload_n hx hb d_Cr_tell_0 rfl (lv_at hl 0 rfl) ?_
    refine va_get (D := (dC, dI)) (ci := 1) (v := .int (fi 1)) (C := R_Cr) (T := T_Cr) (N := 3) hx hb ht in_Cr hown hK hP 1 rfl rfl 2 (by decide) (ht _ kw_28) (fun _ h9 => h9) rfl d_Cr_tell_1 ?_
    refine lv_bipush (v := (8 : Int32)) hx hb d_Cr_tell_4 (by decide) ?_
    refine lv_icmp_ge (tgt := 31) hx hb d_Cr_tell_6 (by decide) (fun c6 => ?_) (fun c6 => ?_)
    · have hw := zw_ite_t c6 hw
      refine lv_iconst (v := (0 : Int32)) hx hb d_Cr_tell_31 (by decide) ?_
      exact W.zret (v := (0 : Int32)) (ty := .boolean) hx hb hr rfl (fun t ht hW => ⟨⟨(0 : Int32), (fi, fl, ai, al), rfl, ⟨rfl, rfl, hw⟩, by rw [ht]; exact hP, va_K.moved hW.alike hK, hD⟩, hS.F ht⟩) hS.2.2 d_Cr_tell_32
    · have hw := zw_ite_f c6 hw
      refine lv_iload_n hx hb d_Cr_tell_9 rfl (lv_at hl 1 rfl) ?_
      refine lv_iconst (v := (0 : Int32)) hx hb d_Cr_tell_10 (by decide) ?_
      refine lv_sipush (v := (20000 : Int32)) hx hb d_Cr_tell_11 (by decide) ?_
      refine vp_callSi (va_Run.run (va_runSN (As := [.int p0, .int (0 : Int32), .int (20000 : Int32)]) (rest := []) ⟨hx, hb, hml, hown, hts⟩ (c_SS_within l p0 (0 : Int32) (20000 : Int32) _ hw) ⟨va_cnB 3 hts (zw_goodC kw_280) rfl rfl rfl (hN _ nw_310) (ht _ kw_1) hd_SS_within.2 ⟨Nat.le_of_ble_eq_true rfl, Nat.le_of_ble_eq_true rfl⟩, ht _ kw_279, trivial⟩ zw_preS0 rfl rfl hl.1 rfl (lv_room (Nat.le_of_ble_eq_true rfl)) d_Cr_tell_14 ⟨Nat.le_of_ble_eq_true rfl, Nat.le_of_ble_eq_true rfl⟩)) (fun r14 hw => ?_)
      refine lv_if_eq (tgt := 31) hx hb d_Cr_tell_17 (by decide) (fun c17 => ?_) (fun c17 => ?_)
      · have hw := zw_ite_t c17 hw
        refine lv_iconst (v := (0 : Int32)) hx hb d_Cr_tell_31 (by decide) ?_
        exact W.zret (v := (0 : Int32)) (ty := .boolean) hx hb hr rfl (fun t ht hW => ⟨⟨(0 : Int32), (fi, fl, ai, al), rfl, ⟨rfl, rfl, hw⟩, by rw [ht]; exact hP, va_K.moved hW.alike hK, hD⟩, hS.F ht⟩) hS.2.2 d_Cr_tell_32
      · have hw := zw_ite_f c17 hw
        refine lv_iload_n hx hb d_Cr_tell_20 rfl (lv_at hl 2 rfl) ?_
        refine lv_iconst (v := (0 : Int32)) hx hb d_Cr_tell_21 (by decide) ?_
        refine lv_sipush (v := (5000 : Int32)) hx hb d_Cr_tell_22 (by decide) ?_
        refine vp_callSi (va_Run.run (va_runSN (As := [.int p1, .int (0 : Int32), .int (5000 : Int32)]) (rest := []) ⟨hx, hb, hml, hown, hts⟩ (c_SS_within l p1 (0 : Int32) (5000 : Int32) _ hw) ⟨va_cnB 3 hts (zw_goodC kw_280) rfl rfl rfl (hN _ nw_310) (ht _ kw_1) hd_SS_within.2 ⟨Nat.le_of_ble_eq_true rfl, Nat.le_of_ble_eq_true rfl⟩, ht _ kw_279, trivial⟩ zw_preS0 rfl rfl hl.1 rfl (lv_room (Nat.le_of_ble_eq_true rfl)) d_Cr_tell_25 ⟨Nat.le_of_ble_eq_true rfl, Nat.le_of_ble_eq_true rfl⟩)) (fun r25 hw => ?_)
        refine lv_if_ne (tgt := 33) hx hb d_Cr_tell_28 (by decide) (fun c28 => ?_) (fun c28 => ?_)
        · have hw := zw_ite_f c28 hw
          refine lv_aload_n hx hb d_Cr_tell_33 rfl (lv_at hl 0 rfl) ?_
          refine va_get (D := (dC, dI)) (ci := 1) (v := .int (fi 1)) (C := R_Cr) (T := T_Cr) (N := 3) hx hb ht in_Cr hown hK hP 1 rfl rfl 2 (by decide) (ht _ kw_28) (fun _ h9 => h9) rfl d_Cr_tell_34 ?_
          refine zw_jn0_i (P := ∀ (H : Heap) (locs : List Loc) (ls : Array Slot), va_P (dC, dI) vwCl (cw cI cJ cG cZ a fi fl ai al) H → va_D A (cw cI cJ cG cZ a fi fl ai al) → va_S A s.heap H locs → lv_has ls 3 [(0, .ref (a 1)), (1, .int p0), (2, .int p1)] → W p l e (headSpec ws_Cr_tell ({ frames := 1, cells := 0, slots := 0, locals := 22 })).room s m ([.ref (a 1), .int p0, .int p1] : List Value).toArray below meth c H locs 0 0 (MQ below (va_Qi (fun r (u : zw_Z) => (zw_k_fi_air fl al K) r u.1 u.2.1 u.2.2.1 u.2.2.2) (fun u t => zw_E (dC, dI) vwCl [(cI, .int), (cJ, .long), (cG, .array .int), (cZ, .boolean)] A (cw cI cJ cG cZ a u.1 u.2.1 u.2.2.1 u.2.2.2) t) A) ([.ref (a 1), .int p0, .int p1] : List Value).toArray s 0 0 A) (F0 m 72 ls [])) hw (fun hw H locs ls hP hD hS hl => ?_) (fun J72 hj72 hw => ?_)
          · refine lv_aload_n hx hb d_Cr_tell_72 rfl (lv_at hl 0 rfl) ?_
            refine va_get (D := (dC, dI)) (ci := 1) (v := .ref (a 2)) (C := R_Cr) (T := T_Cr) (N := 3) hx hb ht in_Cr hown hK hP 1 rfl rfl 0 (by decide) (ht _ kw_26) (fun _ h9 => h9) rfl d_Cr_tell_73 ?_
            refine lv_aload_n hx hb d_Cr_tell_76 rfl (lv_at hl 0 rfl) ?_
            refine va_get (D := (dC, dI)) (ci := 1) (v := .int (fi 1)) (C := R_Cr) (T := T_Cr) (N := 3) hx hb ht in_Cr hown hK hP 1 rfl rfl 2 (by decide) (ht _ kw_28) (fun _ h9 => h9) rfl d_Cr_tell_77 ?_
            refine lv_iload_n hx hb d_Cr_tell_80 rfl (lv_at hl 1 rfl) ?_
            obtain ⟨h81, hw⟩ := hw
            refine va_iast (f := ai 2) hx hb hK hP hD hS 2 0 rfl rfl h81 d_Cr_tell_81 (fun H locs hP hD hS => ?_)
            have hP := cwpai_2 hP
            have hD := cwdai_2 hD
            obtain ⟨ai_81, eai_81⟩ : ∃ z, z = va_up ai 2 (upd (ai 2) (fi 1).toNatClampNeg p0) := ⟨_, rfl⟩
            rw [← eai_81] at hP hD
            have hw := zw_nm_x eai_81 hw
            refine lv_aload_n hx hb d_Cr_tell_82 rfl (lv_at hl 0 rfl) ?_
            refine va_get (D := (dC, dI)) (ci := 1) (v := .ref (a 3)) (C := R_Cr) (T := T_Cr) (N := 3) hx hb ht in_Cr hown hK hP 1 rfl rfl 1 (by decide) (ht _ kw_27) (fun _ h9 => h9) rfl d_Cr_tell_83 ?_
            refine lv_aload_n hx hb d_Cr_tell_86 rfl (lv_at hl 0 rfl) ?_
            refine va_get (D := (dC, dI)) (ci := 1) (v := .int (fi 1)) (C := R_Cr) (T := T_Cr) (N := 3) hx hb ht in_Cr hown hK hP 1 rfl rfl 2 (by decide) (ht _ kw_28) (fun _ h9 => h9) rfl d_Cr_tell_87 ?_
            refine lv_iload_n hx hb d_Cr_tell_90 rfl (lv_at hl 2 rfl) ?_
            obtain ⟨h91, hw⟩ := hw
            refine va_iast (f := ai_81 3) hx hb hK hP hD hS 3 0 rfl rfl h91 d_Cr_tell_91 (fun H locs hP hD hS => ?_)
            have hP := cwpai_3 hP
            have hD := cwdai_3 hD
            obtain ⟨ai_91, eai_91⟩ : ∃ z, z = va_up ai_81 3 (upd (ai_81 3) (fi 1).toNatClampNeg p1) := ⟨_, rfl⟩
            rw [← eai_91] at hP hD
            have hw := zw_nm_x eai_91 hw
            refine lv_aload_n hx hb d_Cr_tell_92 rfl (lv_at hl 0 rfl) ?_
            refine lv_dup hx hb d_Cr_tell_93 rfl ?_
            refine va_get (D := (dC, dI)) (ci := 1) (v := .int (fi 1)) (C := R_Cr) (T := T_Cr) (N := 3) hx hb ht in_Cr hown hK hP 1 rfl rfl 2 (by decide) (ht _ kw_28) (fun _ h9 => h9) rfl d_Cr_tell_94 ?_
            refine lv_iconst (v := (1 : Int32)) hx hb d_Cr_tell_97 (by decide) ?_
            refine lv_iadd hx hb d_Cr_tell_98 ?_
            refine va_put (D := (dC, dI)) (ci := 1) (v := .int ((fi 1) + (1 : Int32))) (ty := .int) (C := R_Cr) (T := T_Cr) (N := 3) hx hb ht in_Cr t_Cr t_Cr_ok n_Cr hown hK hP hD hS 1 rfl rfl 2 (by decide) (ht _ kw_28) (fun _ h9 => h9) rfl (by decide +kernel) rfl rfl (Nat.le_of_ble_eq_true rfl) d_Cr_tell_99 (fun H locs hP hD hS => ?_)
            have hP := cwpfi_1 hP
            have hD := cwdfi_1 hD
            obtain ⟨fi_99, efi_99⟩ : ∃ z, z = va_up fi 1 ((fi 1) + (1 : Int32)) := ⟨_, rfl⟩
            rw [← efi_99] at hP hD
            have hw := zw_nm_x efi_99 hw
            refine lv_iconst (v := (1 : Int32)) hx hb d_Cr_tell_102 (by decide) ?_
            exact W.zret (v := (1 : Int32)) (ty := .boolean) hx hb hr rfl (fun t ht hW => ⟨⟨(1 : Int32), (fi_99, fl, ai_91, al), rfl, ⟨rfl, rfl, hw⟩, by rw [ht]; exact hP, va_K.moved hW.alike hK, hD⟩, hS.F ht⟩) hS.2.2 d_Cr_tell_103
          · refine lv_if_le (tgt := 72) hx hb d_Cr_tell_37 (by decide) (fun c37 => ?_) (fun c37 => ?_)
            · have hw := zw_ite_t c37 hw
              exact (hj72  hw) H locs ls hP hD hS (lv_sub hl [0, 1, 2] rfl)
            · have hw := zw_ite_f c37 hw
              refine lv_iload_n hx hb d_Cr_tell_40 rfl (lv_at hl 1 rfl) ?_
              refine lv_aload_n hx hb d_Cr_tell_41 rfl (lv_at hl 0 rfl) ?_
              refine va_get (D := (dC, dI)) (ci := 1) (v := .ref (a 2)) (C := R_Cr) (T := T_Cr) (N := 3) hx hb ht in_Cr hown hK hP 1 rfl rfl 0 (by decide) (ht _ kw_26) (fun _ h9 => h9) rfl d_Cr_tell_42 ?_
              refine lv_aload_n hx hb d_Cr_tell_45 rfl (lv_at hl 0 rfl) ?_
              refine va_get (D := (dC, dI)) (ci := 1) (v := .int (fi 1)) (C := R_Cr) (T := T_Cr) (N := 3) hx hb ht in_Cr hown hK hP 1 rfl rfl 2 (by decide) (ht _ kw_28) (fun _ h9 => h9) rfl d_Cr_tell_46 ?_
              refine lv_iconst (v := (1 : Int32)) hx hb d_Cr_tell_49 (by decide) ?_
              refine lv_isub hx hb d_Cr_tell_50 ?_
              obtain ⟨h51, hw⟩ := hw
              refine va_iald (f := ai 2) hx hb hK hP 2 0 rfl rfl h51 d_Cr_tell_51 ?_
              refine lv_icmp_le (tgt := 70) hx hb d_Cr_tell_52 (by decide) (fun c52 => ?_) (fun c52 => ?_)
              · have hw := zw_ite_t c52 hw
                refine lv_iconst (v := (0 : Int32)) hx hb d_Cr_tell_70 (by decide) ?_
                exact W.zret (v := (0 : Int32)) (ty := .boolean) hx hb hr rfl (fun t ht hW => ⟨⟨(0 : Int32), (fi, fl, ai, al), rfl, ⟨rfl, rfl, hw⟩, by rw [ht]; exact hP, va_K.moved hW.alike hK, hD⟩, hS.F ht⟩) hS.2.2 d_Cr_tell_71
              · have hw := zw_ite_f c52 hw
                refine lv_iload_n hx hb d_Cr_tell_55 rfl (lv_at hl 2 rfl) ?_
                refine lv_aload_n hx hb d_Cr_tell_56 rfl (lv_at hl 0 rfl) ?_
                refine va_get (D := (dC, dI)) (ci := 1) (v := .ref (a 3)) (C := R_Cr) (T := T_Cr) (N := 3) hx hb ht in_Cr hown hK hP 1 rfl rfl 1 (by decide) (ht _ kw_27) (fun _ h9 => h9) rfl d_Cr_tell_57 ?_
                refine lv_aload_n hx hb d_Cr_tell_60 rfl (lv_at hl 0 rfl) ?_
                refine va_get (D := (dC, dI)) (ci := 1) (v := .int (fi 1)) (C := R_Cr) (T := T_Cr) (N := 3) hx hb ht in_Cr hown hK hP 1 rfl rfl 2 (by decide) (ht _ kw_28) (fun _ h9 => h9) rfl d_Cr_tell_61 ?_
                refine lv_iconst (v := (1 : Int32)) hx hb d_Cr_tell_64 (by decide) ?_
                refine lv_isub hx hb d_Cr_tell_65 ?_
                obtain ⟨h66, hw⟩ := hw
                refine va_iald (f := ai 3) hx hb hK hP 3 0 rfl rfl h66 d_Cr_tell_66 ?_
                refine lv_icmp_ge (tgt := 72) hx hb d_Cr_tell_67 (by decide) (fun c67 => ?_) (fun c67 => ?_)
                · have hw := zw_ite_t c67 hw
                  exact (hj72  hw) H locs ls hP hD hS (lv_sub hl [0, 1, 2] rfl)
                · have hw := zw_ite_f c67 hw
                  refine lv_iconst (v := (0 : Int32)) hx hb d_Cr_tell_70 (by decide) ?_
                  exact W.zret (v := (0 : Int32)) (ty := .boolean) hx hb hr rfl (fun t ht hW => ⟨⟨(0 : Int32), (fi, fl, ai, al), rfl, ⟨rfl, rfl, hw⟩, by rw [ht]; exact hP, va_K.moved hW.alike hK, hD⟩, hS.F ht⟩) hS.2.2 d_Cr_tell_71
        · have hw := zw_ite_t c28 hw
          refine lv_iconst (v := (0 : Int32)) hx hb d_Cr_tell_31 (by decide) ?_
          exact W.zret (v := (0 : Int32)) (ty := .boolean) hx hb hr rfl (fun t ht hW => ⟨⟨(0 : Int32), (fi, fl, ai, al), rfl, ⟨rfl, rfl, hw⟩, by rw [ht]; exact hP, va_K.moved hW.alike hK, hD⟩, hS.F ht⟩) hS.2.2 d_Cr_tell_32
  rw [hH, hlo] at key
  exact key
