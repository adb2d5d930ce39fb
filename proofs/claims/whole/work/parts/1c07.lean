def SS_isRuled_w (fi : Nat → Int32) (fl : Nat → Int64) (ai : Nat → Nat → Int32) (al : Nat → Nat → Int64) (p0 : Int32) (p1 : Int32) (K : Int32 → Prop) : Prop :=
  if p0 = (0 : Int32) then (
    Gi_hasPart_w fi fl ai al p1 (fun (r33 : Int32) =>
    zw_bool r33 ∧ (K r33)))
  else (if p0 = (1 : Int32) then (
    SS_within_w p1 (0 : Int32) ((fi 7) - (2 : Int32)) (fun (r48 : Int32) =>
    zw_bool r48 ∧ (K r48)))
  else (if p0 = (2 : Int32) then (
    SS_isSupport_w p1 (fun (r53 : Int32) =>
    zw_bool r53 ∧ (K r53)))
  else (
    K (0 : Int32))))
theorem d_SS_isRuled_0 : decode b_SS_isRuled 0 = .ok (.iload_n 1, 1) := by decide +kernel
theorem d_SS_isRuled_1 : decode b_SS_isRuled 1 = .ok (.tableswitch (56) (0) (2) #[27, 36, 51], 27) := by decide +kernel
theorem d_SS_isRuled_28 : decode b_SS_isRuled 28 = .ok (.aload_n 0, 1) := by decide +kernel
theorem d_SS_isRuled_29 : decode b_SS_isRuled 29 = .ok (.getfield 55, 3) := by decide +kernel
theorem d_SS_isRuled_32 : decode b_SS_isRuled 32 = .ok (.iload_n 2, 1) := by decide +kernel
theorem d_SS_isRuled_33 : decode b_SS_isRuled 33 = .ok (.invokevirtual 77, 3) := by decide +kernel
theorem d_SS_isRuled_36 : decode b_SS_isRuled 36 = .ok (.ireturn, 1) := by decide +kernel
theorem d_SS_isRuled_37 : decode b_SS_isRuled 37 = .ok (.iload_n 2, 1) := by decide +kernel
theorem d_SS_isRuled_38 : decode b_SS_isRuled 38 = .ok (.iconst 0, 1) := by decide +kernel
theorem d_SS_isRuled_39 : decode b_SS_isRuled 39 = .ok (.aload_n 0, 1) := by decide +kernel
theorem d_SS_isRuled_40 : decode b_SS_isRuled 40 = .ok (.getfield 55, 3) := by decide +kernel
theorem d_SS_isRuled_43 : decode b_SS_isRuled 43 = .ok (.getfield 222, 3) := by decide +kernel
theorem d_SS_isRuled_46 : decode b_SS_isRuled 46 = .ok (.iconst 2, 1) := by decide +kernel
theorem d_SS_isRuled_47 : decode b_SS_isRuled 47 = .ok (.isub, 1) := by decide +kernel
theorem d_SS_isRuled_48 : decode b_SS_isRuled 48 = .ok (.invokestatic 81, 3) := by decide +kernel
theorem d_SS_isRuled_51 : decode b_SS_isRuled 51 = .ok (.ireturn, 1) := by decide +kernel
theorem d_SS_isRuled_52 : decode b_SS_isRuled 52 = .ok (.iload_n 2, 1) := by decide +kernel
theorem d_SS_isRuled_53 : decode b_SS_isRuled 53 = .ok (.invokestatic 101, 3) := by decide +kernel
theorem d_SS_isRuled_56 : decode b_SS_isRuled 56 = .ok (.ireturn, 1) := by decide +kernel
theorem d_SS_isRuled_57 : decode b_SS_isRuled 57 = .ok (.iconst 0, 1) := by decide +kernel
theorem d_SS_isRuled_58 : decode b_SS_isRuled 58 = .ok (.ireturn, 1) := by decide +kernel
set_option maxHeartbeats 4000000 in
set_option maxRecDepth 100000 in
theorem c_SS_isRuled (l : Launch) (dC : Nat → ClassId) (dI : Nat → Nat → Nat) (cI cJ cG cZ : ClassId) (a : Nat → Nat) (fi : Nat → Int32) (fl : Nat → Int64) (ai : Nat → Nat → Int32) (al : Nat → Nat → Int64) (p0 : Int32) (p1 : Int32) (K : Int32 → Prop) (hw : SS_isRuled_w fi fl ai al p0 p1 K) : Met l y_SS_isRuled ws_SS_isRuled ({ frames := 2, cells := 0, slots := 0, locals := 43 }) (va_Pc [.ref (a 0), .int p0, .int p1] (zw_B (dC, dI) vwCl [(cI, .int), (cJ, .long), (cG, .array .int), (cZ, .boolean)] (cw cI cJ cG cZ a fi fl ai al))) (vp_Si K) 0 0 (fun _ => False) := by
  refine Met.ofW (cc := b_SS_isRuled) (maxL := 3) (ret := (Option.some FieldType.boolean)) (by decide) rfl ?_
  intro p e s m args below meth c s₁ B hml hv
  obtain ⟨rfl, hP, hK, hN⟩ := hv
  have hx := B.exec
  have hb := B.bytes
  have hr := B.returns
  have hts := atoms_spec (ws := ws_SS_isRuled) B.pre
  have ht : ∀ w ∈ zw_tbl, w.before _ s = true := fun w h => hts w (List.mem_cons_of_mem _ h)
  have hown : s.vm.findClass R_SS = some m.cls := findClass_of_methodNamed B.named
  have hlocks := B.notSynchronized
  have hl := lv_entry ([.ref (a 0), .int p0, .int p1] : List Value) (n := 3) (Nat.le_of_ble_eq_true rfl)
  rw [lg_entry_eq]
  generalize (lg_sl ([.ref (a 0), .int p0, .int p1] : List Value) ++ List.replicate (3 - (lg_sl ([.ref (a 0), .int p0, .int p1] : List Value)).length) Slot.unset).toArray = ls at hl ⊢
  have hl : lv_has ls 3 [(0, .ref (a 0)), (1, .int p0), (2, .int p1)] := hl
  unfold SS_isRuled_w at hw
  refine lv_iload_n hx hb d_SS_isRuled_0 rfl (lv_at hl 1 rfl) ?_
  by_cases c1_0 : p0 = (0 : Int32)
  · have hw := zw_ite_t c1_0 hw
    refine lv_tableIn (off := 27) (tgt := 28) hx hb d_SS_isRuled_1 (by rw [c1_0]; decide) (by rw [c1_0]; decide) (by rw [c1_0]; rfl) (by decide) ?_
    refine lv_aload_n hx hb d_SS_isRuled_28 rfl (lv_at hl 0 rfl) ?_
    refine va_get (D := (dC, dI)) (ci := 0) (v := .ref (a 19)) (C := R_SS) (T := T_SS) (N := 9) hx hb ht in_SS hown hK hP 0 rfl rfl 0 (by decide) (ht _ kw_242) (fun _ h9 => h9) rfl d_SS_isRuled_29 ?_
    refine lv_iload_n hx hb d_SS_isRuled_32 rfl (lv_at hl 2 rfl) ?_
    refine vp_callSi (va_Run.run (va_runV (As := [.int p1]) (rest := []) ⟨hx, hb, hml, hown, hts⟩ (c_Gi_hasPart l dC dI cI cJ cG cZ a fi fl ai al p1 _ hw) (cwV 1 hts (zw_goodV kw_274 kw_275 kw_276 kw_5 kw_277) rfl rfl rfl hd_Gi_hasPart ⟨Nat.le_of_ble_eq_true rfl, Nat.le_of_ble_eq_true rfl⟩) (zw_preV (ci := 2) (q0 := 19) hK hN hP rfl rfl) rfl rfl hl.1 rfl (lv_room (Nat.le_of_ble_eq_true rfl)) d_SS_isRuled_33 ⟨Nat.le_of_ble_eq_true rfl, Nat.le_of_ble_eq_true rfl⟩)) (fun r33 hw => ?_)
    obtain ⟨hz, hw⟩ := hw
    exact W.zret (v := r33) (ty := .boolean) hx hb hr (zw_bool_n hz) (fun t ht hW => ⟨r33, rfl, hw, ht⟩) t_nil d_SS_isRuled_36
  · have hw := zw_ite_f c1_0 hw
    by_cases c1_1 : p0 = (1 : Int32)
    · have hw := zw_ite_t c1_1 hw
      refine lv_tableIn (off := 36) (tgt := 37) hx hb d_SS_isRuled_1 (by rw [c1_1]; decide) (by rw [c1_1]; decide) (by rw [c1_1]; rfl) (by decide) ?_
      refine lv_iload_n hx hb d_SS_isRuled_37 rfl (lv_at hl 2 rfl) ?_
      refine lv_iconst (v := (0 : Int32)) hx hb d_SS_isRuled_38 (by decide) ?_
      refine lv_aload_n hx hb d_SS_isRuled_39 rfl (lv_at hl 0 rfl) ?_
      refine va_get (D := (dC, dI)) (ci := 0) (v := .ref (a 19)) (C := R_SS) (T := T_SS) (N := 9) hx hb ht in_SS hown hK hP 0 rfl rfl 0 (by decide) (ht _ kw_242) (fun _ h9 => h9) rfl d_SS_isRuled_40 ?_
      refine va_get (D := (dC, dI)) (ci := 2) (v := .int (fi 7)) (C := R_Gi) (T := T_Gi) (N := 7) hx hb ht in_Gi hown hK hP 19 rfl rfl 0 (by decide) (ht _ kw_137) (fun _ h9 => h9) rfl d_SS_isRuled_43 ?_
      refine lv_iconst (v := (2 : Int32)) hx hb d_SS_isRuled_46 (by decide) ?_
      refine lv_isub hx hb d_SS_isRuled_47 ?_
      refine vp_callSi (va_Run.run (va_runS (As := [.int p1, .int (0 : Int32), .int ((fi 7) - (2 : Int32))]) (rest := []) ⟨hx, hb, hml, hown, hts⟩ (c_SS_within l p1 (0 : Int32) ((fi 7) - (2 : Int32)) _ hw) (va_cwS 3 hts (zw_goodS kw_281 kw_279 kw_1 kw_280) rfl rfl rfl hd_SS_within.2 ⟨Nat.le_of_ble_eq_true rfl, Nat.le_of_ble_eq_true rfl⟩) zw_preS0 rfl rfl hl.1 rfl (lv_room (Nat.le_of_ble_eq_true rfl)) d_SS_isRuled_48 ⟨Nat.le_of_ble_eq_true rfl, Nat.le_of_ble_eq_true rfl⟩)) (fun r48 hw => ?_)
      obtain ⟨hz, hw⟩ := hw
      exact W.zret (v := r48) (ty := .boolean) hx hb hr (zw_bool_n hz) (fun t ht hW => ⟨r48, rfl, hw, ht⟩) t_nil d_SS_isRuled_51
    · have hw := zw_ite_f c1_1 hw
      by_cases c1_2 : p0 = (2 : Int32)
      · have hw := zw_ite_t c1_2 hw
        refine lv_tableIn (off := 51) (tgt := 52) hx hb d_SS_isRuled_1 (by rw [c1_2]; decide) (by rw [c1_2]; decide) (by rw [c1_2]; rfl) (by decide) ?_
        refine lv_iload_n hx hb d_SS_isRuled_52 rfl (lv_at hl 2 rfl) ?_
        refine vp_callSi (va_Run.run (va_runS (As := [.int p1]) (rest := []) ⟨hx, hb, hml, hown, hts⟩ (c_SS_isSupport l p1 _ hw) (va_cwS 1 hts (zw_goodS kw_295 kw_296 kw_1 kw_297) rfl rfl rfl hd_SS_isSupport.2 ⟨Nat.le_of_ble_eq_true rfl, Nat.le_of_ble_eq_true rfl⟩) zw_preS0 rfl rfl hl.1 rfl (lv_room (Nat.le_of_ble_eq_true rfl)) d_SS_isRuled_53 ⟨Nat.le_of_ble_eq_true rfl, Nat.le_of_ble_eq_true rfl⟩)) (fun r53 hw => ?_)
        obtain ⟨hz, hw⟩ := hw
        exact W.zret (v := r53) (ty := .boolean) hx hb hr (zw_bool_n hz) (fun t ht hW => ⟨r53, rfl, hw, ht⟩) t_nil d_SS_isRuled_56
      · have hw := zw_ite_f c1_2 hw
        refine lv_tableOut (tgt := 57) hx hb d_SS_isRuled_1 (by have := lv_neT (a := 0) c1_0 (by decide); have := lv_neT (a := 1) c1_1 (by decide); have := lv_neT (a := 2) c1_2 (by decide); omega) (by decide) ?_
        refine lv_iconst (v := (0 : Int32)) hx hb d_SS_isRuled_57 (by decide) ?_
        exact W.zret (v := (0 : Int32)) (ty := .boolean) hx hb hr rfl (fun t ht hW => ⟨(0 : Int32), rfl, hw, ht⟩) t_nil d_SS_isRuled_58
def Ru_put_w (fi : Nat → Int32) (fl : Nat → Int64) (ai : Nat → Nat → Int32) (al : Nat → Nat → Int64) (p0 : Int32) (p1 : Int32) (p2 : Int32) (p3 : Int32) (K : Int32 → (Nat → Int32) → (Nat → Nat → Int32) → Prop) : Prop :=
  vp_in (fi 6) 8 ∧ (zw_nm (va_up ai 13 (upd (ai 13) (fi 6).toNatClampNeg p0)) (fun (ai_9 : Nat → Nat → Int32) =>
  vp_in (fi 6) 8 ∧ (zw_nm (va_up ai_9 14 (upd (ai_9 14) (fi 6).toNatClampNeg p1)) (fun (ai_19 : Nat → Nat → Int32) =>
  vp_in (fi 6) 8 ∧ (zw_nm (va_up ai_19 15 (upd (ai_19 15) (fi 6).toNatClampNeg p2)) (fun (ai_29 : Nat → Nat → Int32) =>
  vp_in (fi 6) 8 ∧ (zw_nm (va_up ai_29 16 (upd (ai_29 16) (fi 6).toNatClampNeg p3)) (fun (ai_40 : Nat → Nat → Int32) =>
  zw_nm (va_up fi 6 ((fi 6) + (1 : Int32))) (fun (fi_48 : Nat → Int32) =>
  K ((fi_48 6) - (1 : Int32)) fi_48 ai_40)))))))))
theorem d_Ru_put_0 : decode b_Ru_put 0 = .ok (.aload_n 0, 1) := by decide +kernel
theorem d_Ru_put_1 : decode b_Ru_put 1 = .ok (.getfield 9, 3) := by decide +kernel
theorem d_Ru_put_4 : decode b_Ru_put 4 = .ok (.aload_n 0, 1) := by decide +kernel
theorem d_Ru_put_5 : decode b_Ru_put 5 = .ok (.getfield 24, 3) := by decide +kernel
theorem d_Ru_put_8 : decode b_Ru_put 8 = .ok (.iload_n 1, 1) := by decide +kernel
theorem d_Ru_put_9 : decode b_Ru_put 9 = .ok (.iastore, 1) := by decide +kernel
theorem d_Ru_put_10 : decode b_Ru_put 10 = .ok (.aload_n 0, 1) := by decide +kernel
theorem d_Ru_put_11 : decode b_Ru_put 11 = .ok (.getfield 15, 3) := by decide +kernel
theorem d_Ru_put_14 : decode b_Ru_put 14 = .ok (.aload_n 0, 1) := by decide +kernel
theorem d_Ru_put_15 : decode b_Ru_put 15 = .ok (.getfield 24, 3) := by decide +kernel
theorem d_Ru_put_18 : decode b_Ru_put 18 = .ok (.iload_n 2, 1) := by decide +kernel
theorem d_Ru_put_19 : decode b_Ru_put 19 = .ok (.iastore, 1) := by decide +kernel
theorem d_Ru_put_20 : decode b_Ru_put 20 = .ok (.aload_n 0, 1) := by decide +kernel
theorem d_Ru_put_21 : decode b_Ru_put 21 = .ok (.getfield 18, 3) := by decide +kernel
theorem d_Ru_put_24 : decode b_Ru_put 24 = .ok (.aload_n 0, 1) := by decide +kernel
theorem d_Ru_put_25 : decode b_Ru_put 25 = .ok (.getfield 24, 3) := by decide +kernel
theorem d_Ru_put_28 : decode b_Ru_put 28 = .ok (.iload_n 3, 1) := by decide +kernel
theorem d_Ru_put_29 : decode b_Ru_put 29 = .ok (.iastore, 1) := by decide +kernel
theorem d_Ru_put_30 : decode b_Ru_put 30 = .ok (.aload_n 0, 1) := by decide +kernel
theorem d_Ru_put_31 : decode b_Ru_put 31 = .ok (.getfield 21, 3) := by decide +kernel
theorem d_Ru_put_34 : decode b_Ru_put 34 = .ok (.aload_n 0, 1) := by decide +kernel
theorem d_Ru_put_35 : decode b_Ru_put 35 = .ok (.getfield 24, 3) := by decide +kernel
theorem d_Ru_put_38 : decode b_Ru_put 38 = .ok (.iload 4, 2) := by decide +kernel
theorem d_Ru_put_40 : decode b_Ru_put 40 = .ok (.iastore, 1) := by decide +kernel
theorem d_Ru_put_41 : decode b_Ru_put 41 = .ok (.aload_n 0, 1) := by decide +kernel
theorem d_Ru_put_42 : decode b_Ru_put 42 = .ok (.dup, 1) := by decide +kernel
theorem d_Ru_put_43 : decode b_Ru_put 43 = .ok (.getfield 24, 3) := by decide +kernel
theorem d_Ru_put_46 : decode b_Ru_put 46 = .ok (.iconst 1, 1) := by decide +kernel
theorem d_Ru_put_47 : decode b_Ru_put 47 = .ok (.iadd, 1) := by decide +kernel
theorem d_Ru_put_48 : decode b_Ru_put 48 = .ok (.putfield 24, 3) := by decide +kernel
theorem d_Ru_put_51 : decode b_Ru_put 51 = .ok (.aload_n 0, 1) := by decide +kernel
theorem d_Ru_put_52 : decode b_Ru_put 52 = .ok (.getfield 24, 3) := by decide +kernel
theorem d_Ru_put_55 : decode b_Ru_put 55 = .ok (.iconst 1, 1) := by decide +kernel
theorem d_Ru_put_56 : decode b_Ru_put 56 = .ok (.isub, 1) := by decide +kernel
theorem d_Ru_put_57 : decode b_Ru_put 57 = .ok (.ireturn, 1) := by decide +kernel
set_option maxHeartbeats 4000000 in
set_option maxRecDepth 100000 in
theorem c_Ru_put (l : Launch) (dC : Nat → ClassId) (dI : Nat → Nat → Nat) (cI cJ cG cZ : ClassId) (a : Nat → Nat) (sz : Nat) (fi : Nat → Int32) (fl : Nat → Int64) (ai : Nat → Nat → Int32) (al : Nat → Nat → Int64) (p0 : Int32) (p1 : Int32) (p2 : Int32) (p3 : Int32) (K : Int32 → (Nat → Int32) → (Nat → Nat → Int32) → Prop) (hw : Ru_put_w fi fl ai al p0 p1 p2 p3 K) : Met l y_Ru_put ws_Ru_put ({ frames := 0, cells := 0, slots := 0, locals := 0 }) (va_Pc [.ref (a 12), .int p0, .int p1, .int p2, .int p3] (zw_Bw (dC, dI) vwCl [(cI, .int), (cJ, .long), (cG, .array .int), (cZ, .boolean)] (cw cI cJ cG cZ a fi fl ai al) sz)) (va_Qi (fun r (u : zw_Z) => (zw_k_fi_air fl al K) r u.1 u.2.1 u.2.2.1 u.2.2.2) (fun u t => zw_E (dC, dI) vwCl [(cI, .int), (cJ, .long), (cG, .array .int), (cZ, .boolean)] (va_A (cw cI cJ cG cZ a fi fl ai al) sz) (cw cI cJ cG cZ a u.1 u.2.1 u.2.2.1 u.2.2.2) t) (va_A (cw cI cJ cG cZ a fi fl ai al) sz)) 0 0 (va_A (cw cI cJ cG cZ a fi fl ai al) sz) := by
  refine Met.ofW (cc := b_Ru_put) (maxL := 5) (ret := (Option.some FieldType.int)) (by decide) rfl ?_
  intro p e s m args below meth c s₁ B hml hv
  obtain ⟨rfl, hsz, hP, hK, hD0, hN⟩ := hv
  have hx := B.exec
  have hb := B.bytes
  have hr := B.returns
  have hts := atoms_spec (ws := ws_Ru_put) B.pre
  have ht : ∀ w ∈ zw_tbl, w.before _ s = true := fun w h => hts w (List.mem_cons_of_mem _ h)
  have hown : s.vm.findClass R_Ru = some m.cls := findClass_of_methodNamed B.named
  have hlocks := B.notSynchronized
  subst hsz
  have hD := hD0.self (sz := s.heap.size)
  generalize hAe : va_A (cw cI cJ cG cZ a fi fl ai al) s.heap.size = A at hD ⊢
  have hA : ∀ q : Nat, s.heap.size ≤ q → A q := fun q h => by rw [← hAe]; exact Or.inr h
  have hS : va_S A s.heap s.heap [] := va_S.rf
  have hl := lv_entry ([.ref (a 12), .int p0, .int p1, .int p2, .int p3] : List Value) (n := 5) (Nat.le_of_ble_eq_true rfl)
  rw [lg_entry_eq]
  generalize (lg_sl ([.ref (a 12), .int p0, .int p1, .int p2, .int p3] : List Value) ++ List.replicate (5 - (lg_sl ([.ref (a 12), .int p0, .int p1, .int p2, .int p3] : List Value)).length) Slot.unset).toArray = ls at hl ⊢
  have hl : lv_has ls 5 [(0, .ref (a 12)), (1, .int p0), (2, .int p1), (3, .int p2), (4, .int p3)] := hl
  unfold Ru_put_w at hw
  obtain ⟨H, hH⟩ : ∃ H, H = s.heap := ⟨_, rfl⟩
  obtain ⟨locs, hlo⟩ : ∃ q : List Loc, q = [] := ⟨_, rfl⟩
  have hP : va_P (dC, dI) vwCl (cw cI cJ cG cZ a fi fl ai al) H := by rw [hH]; exact hP
  have hS : va_S A s.heap H locs := by rw [hH, hlo]; exact hS
  have key : W p l e (headSpec ws_Ru_put ({ frames := 0, cells := 0, slots := 0, locals := 0 })).room s m ([.ref (a 12), .int p0, .int p1, .int p2, .int p3] : List Value).toArray below meth c H locs 0 0 (MQ below (va_Qi (fun r (u : zw_Z) => (zw_k_fi_air fl al K) r u.1 u.2.1 u.2.2.1 u.2.2.2) (fun u t => zw_E (dC, dI) vwCl [(cI, .int), (cJ, .long), (cG, .array .int), (cZ, .boolean)] A (cw cI cJ cG cZ a u.1 u.2.1 u.2.2.1 u.2.2.2) t) A) ([.ref (a 12), .int p0, .int p1, .int p2, .int p3] : List Value).toArray s 0 0 A) (F0 m 0 ls []) := by
    refine lv_aload_n hx hb d_Ru_put_0 rfl (lv_at hl 0 rfl) ?_
    refine va_get (D := (dC, dI)) (ci := 4) (v := .ref (a 13)) (C := R_Ru) (T := T_Ru) (N := 5) hx hb ht in_Ru hown hK hP 12 rfl rfl 0 (by decide) (ht _ kw_101) (fun _ h9 => h9) rfl d_Ru_put_1 ?_
    refine lv_aload_n hx hb d_Ru_put_4 rfl (lv_at hl 0 rfl) ?_
    refine va_get (D := (dC, dI)) (ci := 4) (v := .int (fi 6)) (C := R_Ru) (T := T_Ru) (N := 5) hx hb ht in_Ru hown hK hP 12 rfl rfl 4 (by decide) (ht _ kw_107) (fun _ h9 => h9) rfl d_Ru_put_5 ?_
    refine lv_iload_n hx hb d_Ru_put_8 rfl (lv_at hl 1 rfl) ?_
    obtain ⟨h9, hw⟩ := hw
    refine va_iast (f := ai 13) hx hb hK hP hD hS 13 0 rfl rfl h9 d_Ru_put_9 (fun H locs hP hD hS => ?_)
    have hP := cwpai_13 hP
    have hD := cwdai_13 hD
    obtain ⟨ai_9, eai_9⟩ : ∃ z, z = va_up ai 13 (upd (ai 13) (fi 6).toNatClampNeg p0) := ⟨_, rfl⟩
    rw [← eai_9] at hP hD
    have hw := zw_nm_x eai_9 hw
    refine lv_aload_n hx hb d_Ru_put_10 rfl (lv_at hl 0 rfl) ?_
    refine va_get (D := (dC, dI)) (ci := 4) (v := .ref (a 14)) (C := R_Ru) (T := T_Ru) (N := 5) hx hb ht in_Ru hown hK hP 12 rfl rfl 1 (by decide) (ht _ kw_103) (fun _ h9 => h9) rfl d_Ru_put_11 ?_
    refine lv_aload_n hx hb d_Ru_put_14 rfl (lv_at hl 0 rfl) ?_
    refine va_get (D := (dC, dI)) (ci := 4) (v := .int (fi 6)) (C := R_Ru) (T := T_Ru) (N := 5) hx hb ht in_Ru hown hK hP 12 rfl rfl 4 (by decide) (ht _ kw_107) (fun _ h9 => h9) rfl d_Ru_put_15 ?_
    refine lv_iload_n hx hb d_Ru_put_18 rfl (lv_at hl 2 rfl) ?_
    obtain ⟨h19, hw⟩ := hw
    refine va_iast (f := ai_9 14) hx hb hK hP hD hS 14 0 rfl rfl h19 d_Ru_put_19 (fun H locs hP hD hS => ?_)
    have hP := cwpai_14 hP
    have hD := cwdai_14 hD
    obtain ⟨ai_19, eai_19⟩ : ∃ z, z = va_up ai_9 14 (upd (ai_9 14) (fi 6).toNatClampNeg p1) := ⟨_, rfl⟩
    rw [← eai_19] at hP hD
    have hw := zw_nm_x eai_19 hw
    refine lv_aload_n hx hb d_Ru_put_20 rfl (lv_at hl 0 rfl) ?_
    refine va_get (D := (dC, dI)) (ci := 4) (v := .ref (a 15)) (C := R_Ru) (T := T_Ru) (N := 5) hx hb ht in_Ru hown hK hP 12 rfl rfl 2 (by decide) (ht _ kw_105) (fun _ h9 => h9) rfl d_Ru_put_21 ?_
    refine lv_aload_n hx hb d_Ru_put_24 rfl (lv_at hl 0 rfl) ?_
    refine va_get (D := (dC, dI)) (ci := 4) (v := .int (fi 6)) (C := R_Ru) (T := T_Ru) (N := 5) hx hb ht in_Ru hown hK hP 12 rfl rfl 4 (by decide) (ht _ kw_107) (fun _ h9 => h9) rfl d_Ru_put_25 ?_
    refine lv_iload_n hx hb d_Ru_put_28 rfl (lv_at hl 3 rfl) ?_
    obtain ⟨h29, hw⟩ := hw
    refine va_iast (f := ai_19 15) hx hb hK hP hD hS 15 0 rfl rfl h29 d_Ru_put_29 (fun H locs hP hD hS => ?_)
    have hP := cwpai_15 hP
    have hD := cwdai_15 hD
    obtain ⟨ai_29, eai_29⟩ : ∃ z, z = va_up ai_19 15 (upd (ai_19 15) (fi 6).toNatClampNeg p2) := ⟨_, rfl⟩
    rw [← eai_29] at hP hD
    have hw := zw_nm_x eai_29 hw
    refine lv_aload_n hx hb d_Ru_put_30 rfl (lv_at hl 0 rfl) ?_
    refine va_get (D := (dC, dI)) (ci := 4) (v := .ref (a 16)) (C := R_Ru) (T := T_Ru) (N := 5) hx hb ht in_Ru hown hK hP 12 rfl rfl 3 (by decide) (ht _ kw_106) (fun _ h9 => h9) rfl d_Ru_put_31 ?_
    refine lv_aload_n hx hb d_Ru_put_34 rfl (lv_at hl 0 rfl) ?_
    refine va_get (D := (dC, dI)) (ci := 4) (v := .int (fi 6)) (C := R_Ru) (T := T_Ru) (N := 5) hx hb ht in_Ru hown hK hP 12 rfl rfl 4 (by decide) (ht _ kw_107) (fun _ h9 => h9) rfl d_Ru_put_35 ?_
    refine lv_iload hx hb d_Ru_put_38 (lv_at hl 4 rfl) ?_
    obtain ⟨h40, hw⟩ := hw
    refine va_iast (f := ai_29 16) hx hb hK hP hD hS 16 0 rfl rfl h40 d_Ru_put_40 (fun H locs hP hD hS => ?_)
    have hP := cwpai_16 hP
    have hD := cwdai_16 hD
    obtain ⟨ai_40, eai_40⟩ : ∃ z, z = va_up ai_29 16 (upd (ai_29 16) (fi 6).toNatClampNeg p3) := ⟨_, rfl⟩
    rw [← eai_40] at hP hD
    have hw := zw_nm_x eai_40 hw
    refine lv_aload_n hx hb d_Ru_put_41 rfl (lv_at hl 0 rfl) ?_
    refine lv_dup hx hb d_Ru_put_42 rfl ?_
    refine va_get (D := (dC, dI)) (ci := 4) (v := .int (fi 6)) (C := R_Ru) (T := T_Ru) (N := 5) hx hb ht in_Ru hown hK hP 12 rfl rfl 4 (by decide) (ht _ kw_107) (fun _ h9 => h9) rfl d_Ru_put_43 ?_
    refine lv_iconst (v := (1 : Int32)) hx hb d_Ru_put_46 (by decide) ?_
    refine lv_iadd hx hb d_Ru_put_47 ?_
    refine va_put (D := (dC, dI)) (ci := 4) (v := .int ((fi 6) + (1 : Int32))) (ty := .int) (C := R_Ru) (T := T_Ru) (N := 5) hx hb ht in_Ru t_Ru t_Ru_ok n_Ru hown hK hP hD hS 12 rfl rfl 4 (by decide) (ht _ kw_107) (fun _ h9 => h9) rfl (by decide +kernel) rfl rfl (Nat.le_of_ble_eq_true rfl) d_Ru_put_48 (fun H locs hP hD hS => ?_)
    have hP := cwpfi_6 hP
    have hD := cwdfi_6 hD
    obtain ⟨fi_48, efi_48⟩ : ∃ z, z = va_up fi 6 ((fi 6) + (1 : Int32)) := ⟨_, rfl⟩
    rw [← efi_48] at hP hD
    have hw := zw_nm_x efi_48 hw
    refine lv_aload_n hx hb d_Ru_put_51 rfl (lv_at hl 0 rfl) ?_
    refine va_get (D := (dC, dI)) (ci := 4) (v := .int (fi_48 6)) (C := R_Ru) (T := T_Ru) (N := 5) hx hb ht in_Ru hown hK hP 12 rfl rfl 4 (by decide) (ht _ kw_107) (fun _ h9 => h9) rfl d_Ru_put_52 ?_
    refine lv_iconst (v := (1 : Int32)) hx hb d_Ru_put_55 (by decide) ?_
    refine lv_isub hx hb d_Ru_put_56 ?_
    exact W.iret (v := ((fi_48 6) - (1 : Int32))) hx hb hr (fun t ht hW => ⟨⟨((fi_48 6) - (1 : Int32)), (fi_48, fl, ai_40, al), rfl, ⟨rfl, rfl, hw⟩, by rw [ht]; exact hP, va_K.moved hW.alike hK, hD⟩, hS.F ht⟩) hS.2.2 d_Ru_put_57
  rw [hH, hlo] at key
  exact key
def SS_rule_w (fi : Nat → Int32) (fl : Nat → Int64) (ai : Nat → Nat → Int32) (al : Nat → Nat → Int64) (p0 : Int32) (p1 : Int32) (p2 : Int32) (p3 : Int32) (K : Int64 → (Nat → Int32) → (Nat → Nat → Int32) → Prop) : Prop :=
  SS_isRuled_w fi fl ai al p0 p1 (fun (r3 : Int32) =>
  if r3 = 0 then (
    K (-1000000000000000000 : Int64) fi ai)
  else (
    if p3 < p2 then (
      K (-1000000000000000000 : Int64) fi ai)
    else (
      if (fi 6) < (8 : Int32) then (
        Ru_put_w fi fl ai al p0 p1 p2 p3 (fun (r40 : Int32) (fi_40 : Nat → Int32) (ai_40 : Nat → Nat → Int32) =>
        K r40.toInt64 fi_40 ai_40))
      else (
        K (-1000000000000000000 : Int64) fi ai))))
theorem d_SS_rule_0 : decode b_SS_rule 0 = .ok (.aload_n 0, 1) := by decide +kernel
theorem d_SS_rule_1 : decode b_SS_rule 1 = .ok (.iload_n 1, 1) := by decide +kernel
theorem d_SS_rule_2 : decode b_SS_rule 2 = .ok (.iload_n 2, 1) := by decide +kernel
theorem d_SS_rule_3 : decode b_SS_rule 3 = .ok (.invokevirtual 203, 3) := by decide +kernel
theorem d_SS_rule_6 : decode b_SS_rule 6 = .ok (.ifCond .eq (21), 3) := by decide +kernel
theorem d_SS_rule_9 : decode b_SS_rule 9 = .ok (.iload_n 3, 1) := by decide +kernel
theorem d_SS_rule_10 : decode b_SS_rule 10 = .ok (.iload 4, 2) := by decide +kernel
theorem d_SS_rule_12 : decode b_SS_rule 12 = .ok (.if_icmp .gt (15), 3) := by decide +kernel
theorem d_SS_rule_15 : decode b_SS_rule 15 = .ok (.aload_n 0, 1) := by decide +kernel
theorem d_SS_rule_16 : decode b_SS_rule 16 = .ok (.getfield 26, 3) := by decide +kernel
theorem d_SS_rule_19 : decode b_SS_rule 19 = .ok (.getfield 206, 3) := by decide +kernel
theorem d_SS_rule_22 : decode b_SS_rule 22 = .ok (.bipush (8), 2) := by decide +kernel
theorem d_SS_rule_24 : decode b_SS_rule 24 = .ok (.if_icmp .lt (7), 3) := by decide +kernel
theorem d_SS_rule_27 : decode b_SS_rule 27 = .ok (.ldc2_w 128, 3) := by decide +kernel
theorem d_SS_rule_30 : decode b_SS_rule 30 = .ok (.lreturn, 1) := by decide +kernel
theorem d_SS_rule_31 : decode b_SS_rule 31 = .ok (.aload_n 0, 1) := by decide +kernel
theorem d_SS_rule_32 : decode b_SS_rule 32 = .ok (.getfield 26, 3) := by decide +kernel
theorem d_SS_rule_35 : decode b_SS_rule 35 = .ok (.iload_n 1, 1) := by decide +kernel
theorem d_SS_rule_36 : decode b_SS_rule 36 = .ok (.iload_n 2, 1) := by decide +kernel
theorem d_SS_rule_37 : decode b_SS_rule 37 = .ok (.iload_n 3, 1) := by decide +kernel
theorem d_SS_rule_38 : decode b_SS_rule 38 = .ok (.iload 4, 2) := by decide +kernel
theorem d_SS_rule_40 : decode b_SS_rule 40 = .ok (.invokevirtual 209, 3) := by decide +kernel
theorem d_SS_rule_43 : decode b_SS_rule 43 = .ok (.i2l, 1) := by decide +kernel
theorem d_SS_rule_44 : decode b_SS_rule 44 = .ok (.lreturn, 1) := by decide +kernel
set_option maxHeartbeats 4000000 in
set_option maxRecDepth 100000 in
theorem c_SS_rule (l : Launch) (dC : Nat → ClassId) (dI : Nat → Nat → Nat) (cI cJ cG cZ : ClassId) (a : Nat → Nat) (sz : Nat) (fi : Nat → Int32) (fl : Nat → Int64) (ai : Nat → Nat → Int32) (al : Nat → Nat → Int64) (p0 : Int32) (p1 : Int32) (p2 : Int32) (p3 : Int32) (K : Int64 → (Nat → Int32) → (Nat → Nat → Int32) → Prop) (hw : SS_rule_w fi fl ai al p0 p1 p2 p3 K) : Met l y_SS_rule ws_SS_rule ({ frames := 3, cells := 0, slots := 0, locals := 65 }) (va_Pc [.ref (a 0), .int p0, .int p1, .int p2, .int p3] (zw_Bw (dC, dI) vwCl [(cI, .int), (cJ, .long), (cG, .array .int), (cZ, .boolean)] (cw cI cJ cG cZ a fi fl ai al) sz)) (va_Ql (fun r (u : zw_Z) => (zw_k_fi_air fl al K) r u.1 u.2.1 u.2.2.1 u.2.2.2) (fun u t => zw_E (dC, dI) vwCl [(cI, .int), (cJ, .long), (cG, .array .int), (cZ, .boolean)] (va_A (cw cI cJ cG cZ a fi fl ai al) sz) (cw cI cJ cG cZ a u.1 u.2.1 u.2.2.1 u.2.2.2) t) (va_A (cw cI cJ cG cZ a fi fl ai al) sz)) 0 0 (va_A (cw cI cJ cG cZ a fi fl ai al) sz) := by
  refine Met.ofW (cc := b_SS_rule) (maxL := 5) (ret := (Option.some FieldType.long)) (by decide) rfl ?_
  intro p e s m args below meth c s₁ B hml hv
  obtain ⟨rfl, hsz, hP, hK, hD0, hN⟩ := hv
  have hx := B.exec
  have hb := B.bytes
  have hr := B.returns
  have hts := atoms_spec (ws := ws_SS_rule) B.pre
  have ht : ∀ w ∈ zw_tbl, w.before _ s = true := fun w h => hts w (List.mem_cons_of_mem _ h)
  have hown : s.vm.findClass R_SS = some m.cls := findClass_of_methodNamed B.named
  have hlocks := B.notSynchronized
  subst hsz
  have hD := hD0.self (sz := s.heap.size)
  generalize hAe : va_A (cw cI cJ cG cZ a fi fl ai al) s.heap.size = A at hD ⊢
  have hA : ∀ q : Nat, s.heap.size ≤ q → A q := fun q h => by rw [← hAe]; exact Or.inr h
  have hS : va_S A s.heap s.heap [] := va_S.rf
  have hl := lv_entry ([.ref (a 0), .int p0, .int p1, .int p2, .int p3] : List Value) (n := 5) (Nat.le_of_ble_eq_true rfl)
  rw [lg_entry_eq]
  generalize (lg_sl ([.ref (a 0), .int p0, .int p1, .int p2, .int p3] : List Value) ++ List.replicate (5 - (lg_sl ([.ref (a 0), .int p0, .int p1, .int p2, .int p3] : List Value)).length) Slot.unset).toArray = ls at hl ⊢
  have hl : lv_has ls 5 [(0, .ref (a 0)), (1, .int p0), (2, .int p1), (3, .int p2), (4, .int p3)] := hl
  unfold SS_rule_w at hw
  obtain ⟨H, hH⟩ : ∃ H, H = s.heap := ⟨_, rfl⟩
  obtain ⟨locs, hlo⟩ : ∃ q : List Loc, q = [] := ⟨_, rfl⟩
  have hP : va_P (dC, dI) vwCl (cw cI cJ cG cZ a fi fl ai al) H := by rw [hH]; exact hP
  have hS : va_S A s.heap H locs := by rw [hH, hlo]; exact hS
  have key : W p l e (headSpec ws_SS_rule ({ frames := 3, cells := 0, slots := 0, locals := 65 })).room s m ([.ref (a 0), .int p0, .int p1, .int p2, .int p3] : List Value).toArray below meth c H locs 0 0 (MQ below (va_Ql (fun r (u : zw_Z) => (zw_k_fi_air fl al K) r u.1 u.2.1 u.2.2.1 u.2.2.2) (fun u t => zw_E (dC, dI) vwCl [(cI, .int), (cJ, .long), (cG, .array .int), (cZ, .boolean)] A (cw cI cJ cG cZ a u.1 u.2.1 u.2.2.1 u.2.2.2) t) A) ([.ref (a 0), .int p0, .int p1, .int p2, .int p3] : List Value).toArray s 0 0 A) (F0 m 0 ls []) := by
    refine lv_aload_n hx hb d_SS_rule_0 rfl (lv_at hl 0 rfl) ?_
    refine lv_iload_n hx hb d_SS_rule_1 rfl (lv_at hl 1 rfl) ?_
    refine lv_iload_n hx hb d_SS_rule_2 rfl (lv_at hl 2 rfl) ?_
    refine vp_callSi (va_Run.run (va_runV (As := [.int p0, .int p1]) (rest := []) ⟨hx, hb, hml, hown, hts⟩ (c_SS_isRuled l dC dI cI cJ cG cZ a fi fl ai al p0 p1 _ hw) (cwV 2 hts (zw_goodV kw_512 kw_514 kw_s11 kw_1 kw_515) rfl rfl rfl hd_SS_isRuled ⟨Nat.le_of_ble_eq_true rfl, Nat.le_of_ble_eq_true rfl⟩) (zw_preV (ci := 0) (q0 := 0) hK hN hP rfl rfl) rfl rfl hl.1 rfl (lv_room (Nat.le_of_ble_eq_true rfl)) d_SS_rule_3 ⟨Nat.le_of_ble_eq_true rfl, Nat.le_of_ble_eq_true rfl⟩)) (fun r3 hw => ?_)
    refine lv_if_eq (tgt := 27) hx hb d_SS_rule_6 (by decide) (fun c6 => ?_) (fun c6 => ?_)
    · have hw := zw_ite_t c6 hw
      refine lv_ldc2 (v := (-1000000000000000000 : Int64)) hx hb hown (hts (.constantLong R_SS 128 (-1000000000000000000 : Int64)) (by decide +kernel)) d_SS_rule_27 ?_
      exact W.lret (v := (-1000000000000000000 : Int64)) hx hb hr (fun t ht hW => ⟨⟨(-1000000000000000000 : Int64), (fi, fl, ai, al), rfl, ⟨rfl, rfl, hw⟩, by rw [ht]; exact hP, va_K.moved hW.alike hK, hD⟩, hS.F ht⟩) hS.2.2 d_SS_rule_30
    · have hw := zw_ite_f c6 hw
      refine lv_iload_n hx hb d_SS_rule_9 rfl (lv_at hl 3 rfl) ?_
      refine lv_iload hx hb d_SS_rule_10 (lv_at hl 4 rfl) ?_
      refine lv_icmp_gt (tgt := 27) hx hb d_SS_rule_12 (by decide) (fun c12 => ?_) (fun c12 => ?_)
      · have hw := zw_ite_t c12 hw
        refine lv_ldc2 (v := (-1000000000000000000 : Int64)) hx hb hown (hts (.constantLong R_SS 128 (-1000000000000000000 : Int64)) (by decide +kernel)) d_SS_rule_27 ?_
        exact W.lret (v := (-1000000000000000000 : Int64)) hx hb hr (fun t ht hW => ⟨⟨(-1000000000000000000 : Int64), (fi, fl, ai, al), rfl, ⟨rfl, rfl, hw⟩, by rw [ht]; exact hP, va_K.moved hW.alike hK, hD⟩, hS.F ht⟩) hS.2.2 d_SS_rule_30
      · have hw := zw_ite_f c12 hw
        refine lv_aload_n hx hb d_SS_rule_15 rfl (lv_at hl 0 rfl) ?_
        refine va_get (D := (dC, dI)) (ci := 0) (v := .ref (a 12)) (C := R_SS) (T := T_SS) (N := 9) hx hb ht in_SS hown hK hP 0 rfl rfl 3 (by decide) (ht _ kw_245) (fun _ h9 => h9) rfl d_SS_rule_16 ?_
        refine va_get (D := (dC, dI)) (ci := 4) (v := .int (fi 6)) (C := R_Ru) (T := T_Ru) (N := 5) hx hb ht in_Ru hown hK hP 12 rfl rfl 4 (by decide) (ht _ kw_108) (fun _ h9 => h9) rfl d_SS_rule_19 ?_
        refine lv_bipush (v := (8 : Int32)) hx hb d_SS_rule_22 (by decide) ?_
        refine lv_icmp_lt (tgt := 31) hx hb d_SS_rule_24 (by decide) (fun c24 => ?_) (fun c24 => ?_)
        · have hw := zw_ite_t c24 hw
          refine lv_aload_n hx hb d_SS_rule_31 rfl (lv_at hl 0 rfl) ?_
          refine va_get (D := (dC, dI)) (ci := 0) (v := .ref (a 12)) (C := R_SS) (T := T_SS) (N := 9) hx hb ht in_SS hown hK hP 0 rfl rfl 3 (by decide) (ht _ kw_245) (fun _ h9 => h9) rfl d_SS_rule_32 ?_
          refine lv_iload_n hx hb d_SS_rule_35 rfl (lv_at hl 1 rfl) ?_
          refine lv_iload_n hx hb d_SS_rule_36 rfl (lv_at hl 2 rfl) ?_
          refine lv_iload_n hx hb d_SS_rule_37 rfl (lv_at hl 3 rfl) ?_
          refine lv_iload hx hb d_SS_rule_38 (lv_at hl 4 rfl) ?_
          refine zw_ci (va_runV (As := [.int p0, .int p1, .int p2, .int p3]) (rest := []) ⟨hx, hb, hml, hown, hts⟩ (c_Ru_put l dC dI cI cJ cG cZ a H.size fi fl ai al p0 p1 p2 p3 _ hw) (cwV 4 hts (zw_goodV kw_516 kw_517 kw_518 kw_4 kw_519) rfl rfl rfl hd_Ru_put ⟨Nat.le_of_ble_eq_true rfl, Nat.le_of_ble_eq_true rfl⟩) (zw_preVw (ci := 4) (q0 := 12) hK hN hP hD rfl rfl) rfl rfl hl.1 rfl (lv_room (Nat.le_of_ble_eq_true rfl)) d_SS_rule_40 ⟨Nat.le_of_ble_eq_true rfl, Nat.le_of_ble_eq_true rfl⟩) hD hS hA (fun r40 fi_40 fl_40 ai_40 al_40 H locs hw hP hD hS => ?_)
          obtain ⟨rfl, rfl, hw⟩ := hw
          refine lv_i2l hx hb d_SS_rule_43 rfl ?_
          exact W.lret (v := r40.toInt64) hx hb hr (fun t ht hW => ⟨⟨r40.toInt64, (fi_40, fl, ai_40, al), rfl, ⟨rfl, rfl, hw⟩, by rw [ht]; exact hP, va_K.moved hW.alike hK, hD⟩, hS.F ht⟩) hS.2.2 d_SS_rule_44
        · have hw := zw_ite_f c24 hw
          refine lv_ldc2 (v := (-1000000000000000000 : Int64)) hx hb hown (hts (.constantLong R_SS 128 (-1000000000000000000 : Int64)) (by decide +kernel)) d_SS_rule_27 ?_
          exact W.lret (v := (-1000000000000000000 : Int64)) hx hb hr (fun t ht hW => ⟨⟨(-1000000000000000000 : Int64), (fi, fl, ai, al), rfl, ⟨rfl, rfl, hw⟩, by rw [ht]; exact hP, va_K.moved hW.alike hK, hD⟩, hS.F ht⟩) hS.2.2 d_SS_rule_30
  rw [hH, hlo] at key
  exact key
def Ru_allows_w (fi : Nat → Int32) (fl : Nat → Int64) (ai : Nat → Nat → Int32) (al : Nat → Nat → Int64) (p0 : Int32) (p1 : Int64) (p2 : Int64) (K : Int32 → Prop) : Prop :=
  vp_in p0 8 ∧ (
  if p1 < ((ai 15 p0.toNatClampNeg).toInt64 * p2) then (
    K (0 : Int32))
  else (
    vp_in p0 8 ∧ (
    if ((ai 16 p0.toNatClampNeg).toInt64 * p2) < p1 then (
      K (0 : Int32))
    else (
      K (1 : Int32)))))
theorem d_Ru_allows_0 : decode b_Ru_allows 0 = .ok (.lload_n 2, 1) := by decide +kernel
theorem d_Ru_allows_1 : decode b_Ru_allows 1 = .ok (.aload_n 0, 1) := by decide +kernel
theorem d_Ru_allows_2 : decode b_Ru_allows 2 = .ok (.getfield 18, 3) := by decide +kernel
theorem d_Ru_allows_5 : decode b_Ru_allows 5 = .ok (.iload_n 1, 1) := by decide +kernel
theorem d_Ru_allows_6 : decode b_Ru_allows 6 = .ok (.iaload, 1) := by decide +kernel
theorem d_Ru_allows_7 : decode b_Ru_allows 7 = .ok (.i2l, 1) := by decide +kernel
theorem d_Ru_allows_8 : decode b_Ru_allows 8 = .ok (.lload 4, 2) := by decide +kernel
theorem d_Ru_allows_10 : decode b_Ru_allows 10 = .ok (.lmul, 1) := by decide +kernel
theorem d_Ru_allows_11 : decode b_Ru_allows 11 = .ok (.lcmp, 1) := by decide +kernel
theorem d_Ru_allows_12 : decode b_Ru_allows 12 = .ok (.ifCond .lt (22), 3) := by decide +kernel
theorem d_Ru_allows_15 : decode b_Ru_allows 15 = .ok (.lload_n 2, 1) := by decide +kernel
theorem d_Ru_allows_16 : decode b_Ru_allows 16 = .ok (.aload_n 0, 1) := by decide +kernel
theorem d_Ru_allows_17 : decode b_Ru_allows 17 = .ok (.getfield 21, 3) := by decide +kernel
theorem d_Ru_allows_20 : decode b_Ru_allows 20 = .ok (.iload_n 1, 1) := by decide +kernel
theorem d_Ru_allows_21 : decode b_Ru_allows 21 = .ok (.iaload, 1) := by decide +kernel
theorem d_Ru_allows_22 : decode b_Ru_allows 22 = .ok (.i2l, 1) := by decide +kernel
theorem d_Ru_allows_23 : decode b_Ru_allows 23 = .ok (.lload 4, 2) := by decide +kernel
theorem d_Ru_allows_25 : decode b_Ru_allows 25 = .ok (.lmul, 1) := by decide +kernel
theorem d_Ru_allows_26 : decode b_Ru_allows 26 = .ok (.lcmp, 1) := by decide +kernel
theorem d_Ru_allows_27 : decode b_Ru_allows 27 = .ok (.ifCond .gt (7), 3) := by decide +kernel
theorem d_Ru_allows_30 : decode b_Ru_allows 30 = .ok (.iconst 1, 1) := by decide +kernel
theorem d_Ru_allows_31 : decode b_Ru_allows 31 = .ok (.goto (4), 3) := by decide +kernel
theorem d_Ru_allows_34 : decode b_Ru_allows 34 = .ok (.iconst 0, 1) := by decide +kernel
theorem d_Ru_allows_35 : decode b_Ru_allows 35 = .ok (.ireturn, 1) := by decide +kernel
set_option maxHeartbeats 4000000 in
set_option maxRecDepth 100000 in
theorem c_Ru_allows (l : Launch) (dC : Nat → ClassId) (dI : Nat → Nat → Nat) (cI cJ cG cZ : ClassId) (a : Nat → Nat) (fi : Nat → Int32) (fl : Nat → Int64) (ai : Nat → Nat → Int32) (al : Nat → Nat → Int64) (p0 : Int32) (p1 : Int64) (p2 : Int64) (K : Int32 → Prop) (hw : Ru_allows_w fi fl ai al p0 p1 p2 K) : Met l y_Ru_allows ws_Ru_allows ({ frames := 0, cells := 0, slots := 0, locals := 0 }) (va_Pc [.ref (a 12), .int p0, .long p1, .long p2] (zw_B (dC, dI) vwCl [(cI, .int), (cJ, .long), (cG, .array .int), (cZ, .boolean)] (cw cI cJ cG cZ a fi fl ai al))) (vp_Si K) 0 0 (fun _ => False) := by
  refine Met.ofW (cc := b_Ru_allows) (maxL := 6) (ret := (Option.some FieldType.boolean)) (by decide) rfl ?_
  intro p e s m args below meth c s₁ B hml hv
  obtain ⟨rfl, hP, hK, hN⟩ := hv
  have hx := B.exec
  have hb := B.bytes
  have hr := B.returns
  have hts := atoms_spec (ws := ws_Ru_allows) B.pre
  have ht : ∀ w ∈ zw_tbl, w.before _ s = true := fun w h => hts w (List.mem_cons_of_mem _ h)
  have hown : s.vm.findClass R_Ru = some m.cls := findClass_of_methodNamed B.named
  have hlocks := B.notSynchronized
  have hl := lv_entry ([.ref (a 12), .int p0, .long p1, .long p2] : List Value) (n := 6) (Nat.le_of_ble_eq_true rfl)
  rw [lg_entry_eq]
  generalize (lg_sl ([.ref (a 12), .int p0, .long p1, .long p2] : List Value) ++ List.replicate (6 - (lg_sl ([.ref (a 12), .int p0, .long p1, .long p2] : List Value)).length) Slot.unset).toArray = ls at hl ⊢
  have hl : lv_has ls 6 [(0, .ref (a 12)), (1, .int p0), (2, .long p1), (4, .long p2)] := hl
  unfold Ru_allows_w at hw
  refine lv_lload_n hx hb d_Ru_allows_0 rfl (lv_at hl 2 rfl) ?_
  refine lv_aload_n hx hb d_Ru_allows_1 rfl (lv_at hl 0 rfl) ?_
  refine va_get (D := (dC, dI)) (ci := 4) (v := .ref (a 15)) (C := R_Ru) (T := T_Ru) (N := 5) hx hb ht in_Ru hown hK hP 12 rfl rfl 2 (by decide) (ht _ kw_105) (fun _ h9 => h9) rfl d_Ru_allows_2 ?_
  refine lv_iload_n hx hb d_Ru_allows_5 rfl (lv_at hl 1 rfl) ?_
  obtain ⟨h6, hw⟩ := hw
  refine va_iald (f := ai 15) hx hb hK hP 15 0 rfl rfl h6 d_Ru_allows_6 ?_
  refine lv_i2l hx hb d_Ru_allows_7 rfl ?_
  refine lv_lload hx hb d_Ru_allows_8 (lv_at hl 3 rfl) ?_
  refine lv_lmul hx hb d_Ru_allows_10 ?_
  refine W.lcmp hx hb d_Ru_allows_11 ?_
  refine lv_if_lt (tgt := 34) hx hb d_Ru_allows_12 (by decide) (fun c12 => ?_) (fun c12 => ?_)
  · have hw := zw_ite_t (zw_lg_lt.mp c12) hw
    refine lv_iconst (v := (0 : Int32)) hx hb d_Ru_allows_34 (by decide) ?_
    exact W.zret (v := (0 : Int32)) (ty := .boolean) hx hb hr rfl (fun t ht hW => ⟨(0 : Int32), rfl, hw, ht⟩) t_nil d_Ru_allows_35
  · have hw := zw_ite_f (mt zw_lg_lt.mpr c12) hw
    refine lv_lload_n hx hb d_Ru_allows_15 rfl (lv_at hl 2 rfl) ?_
    refine lv_aload_n hx hb d_Ru_allows_16 rfl (lv_at hl 0 rfl) ?_
    refine va_get (D := (dC, dI)) (ci := 4) (v := .ref (a 16)) (C := R_Ru) (T := T_Ru) (N := 5) hx hb ht in_Ru hown hK hP 12 rfl rfl 3 (by decide) (ht _ kw_106) (fun _ h9 => h9) rfl d_Ru_allows_17 ?_
    refine lv_iload_n hx hb d_Ru_allows_20 rfl (lv_at hl 1 rfl) ?_
    obtain ⟨h21, hw⟩ := hw
    refine va_iald (f := ai 16) hx hb hK hP 16 0 rfl rfl h21 d_Ru_allows_21 ?_
    refine lv_i2l hx hb d_Ru_allows_22 rfl ?_
    refine lv_lload hx hb d_Ru_allows_23 (lv_at hl 3 rfl) ?_
    refine lv_lmul hx hb d_Ru_allows_25 ?_
    refine W.lcmp hx hb d_Ru_allows_26 ?_
    refine lv_if_gt (tgt := 34) hx hb d_Ru_allows_27 (by decide) (fun c27 => ?_) (fun c27 => ?_)
    · have hw := zw_ite_t (zw_lg_gt.mp c27) hw
      refine lv_iconst (v := (0 : Int32)) hx hb d_Ru_allows_34 (by decide) ?_
      exact W.zret (v := (0 : Int32)) (ty := .boolean) hx hb hr rfl (fun t ht hW => ⟨(0 : Int32), rfl, hw, ht⟩) t_nil d_Ru_allows_35
    · have hw := zw_ite_f (mt zw_lg_gt.mpr c27) hw
      refine lv_iconst (v := (1 : Int32)) hx hb d_Ru_allows_30 (by decide) ?_
      refine lv_goto (tgt := 35) hx hb d_Ru_allows_31 (by decide) ?_
      exact W.zret (v := (1 : Int32)) (ty := .boolean) hx hb hr rfl (fun t ht hW => ⟨(1 : Int32), rfl, hw, ht⟩) t_nil d_Ru_allows_35
def SS_isBroken_w (fi : Nat → Int32) (fl : Nat → Int64) (ai : Nat → Nat → Int32) (al : Nat → Nat → Int64) (p0 : Int32) (p1 : Int32) (K : Int32 → Prop) : Prop :=
  vp_in p0 8 ∧ (
  zw_nm (ai 14 p0.toNatClampNeg) (fun (v9 : Int32) =>
  vp_in p0 8 ∧ (
  if (ai 13 p0.toNatClampNeg) = (0 : Int32) then (
    SS_isThere_w fi fl ai al v9 p1 (fun (r47 : Int32) =>
    if r47 = 0 then (
      K (0 : Int32))
    else (
      SS_heightNow_w fi fl ai al v9 (fun (r60 : Int64) =>
      Ru_allows_w fi fl ai al p0 r60 (1000000000 : Int64) (fun (r66 : Int32) =>
      if r66 = 0 then (
        K (1 : Int32))
      else (
        K (0 : Int32)))))))
  else (if (ai 13 p0.toNatClampNeg) = (1 : Int32) then (
    SS_isThere_w fi fl ai al v9 p1 (fun (r81 : Int32) =>
    if r81 = 0 then (
      K (0 : Int32))
    else (
      SS_isThere_w fi fl ai al (v9 + (1 : Int32)) p1 (fun (r92 : Int32) =>
      if r92 = 0 then (
        K (0 : Int32))
      else (
        SS_heightNow_w fi fl ai al v9 (fun (r105 : Int64) =>
        SS_heightNow_w fi fl ai al (v9 + (1 : Int32)) (fun (r112 : Int64) =>
        Ru_allows_w fi fl ai al p0 (r105 - r112) (1000000000 : Int64) (fun (r119 : Int32) =>
        if r119 = 0 then (
          K (1 : Int32))
        else (
          K (0 : Int32))))))))))
  else (
    vp_in v9 3 ∧ (
    Ru_allows_w fi fl ai al p0 (al 42 v9.toNatClampNeg) (1000 : Int64) (fun (r148 : Int32) =>
    if r148 = 0 then (
      K (1 : Int32))
    else (
      K (0 : Int32)))))))))
theorem d_SS_isBroken_0 : decode b_SS_isBroken 0 = .ok (.aload_n 0, 1) := by decide +kernel
theorem d_SS_isBroken_1 : decode b_SS_isBroken 1 = .ok (.getfield 26, 3) := by decide +kernel
theorem d_SS_isBroken_4 : decode b_SS_isBroken 4 = .ok (.getfield 278, 3) := by decide +kernel
theorem d_SS_isBroken_7 : decode b_SS_isBroken 7 = .ok (.iload_n 1, 1) := by decide +kernel
theorem d_SS_isBroken_8 : decode b_SS_isBroken 8 = .ok (.iaload, 1) := by decide +kernel
theorem d_SS_isBroken_9 : decode b_SS_isBroken 9 = .ok (.istore_n 3, 1) := by decide +kernel
theorem d_SS_isBroken_10 : decode b_SS_isBroken 10 = .ok (.aload_n 0, 1) := by decide +kernel
theorem d_SS_isBroken_11 : decode b_SS_isBroken 11 = .ok (.getfield 26, 3) := by decide +kernel
theorem d_SS_isBroken_14 : decode b_SS_isBroken 14 = .ok (.getfield 281, 3) := by decide +kernel
theorem d_SS_isBroken_17 : decode b_SS_isBroken 17 = .ok (.iload_n 1, 1) := by decide +kernel
theorem d_SS_isBroken_18 : decode b_SS_isBroken 18 = .ok (.iaload, 1) := by decide +kernel
theorem d_SS_isBroken_19 : decode b_SS_isBroken 19 = .ok (.lookupswitch (112) #[(0, 25), (1, 59)], 25) := by decide +kernel
theorem d_SS_isBroken_44 : decode b_SS_isBroken 44 = .ok (.aload_n 0, 1) := by decide +kernel
theorem d_SS_isBroken_45 : decode b_SS_isBroken 45 = .ok (.iload_n 3, 1) := by decide +kernel
theorem d_SS_isBroken_46 : decode b_SS_isBroken 46 = .ok (.iload_n 2, 1) := by decide +kernel
theorem d_SS_isBroken_47 : decode b_SS_isBroken 47 = .ok (.invokevirtual 170, 3) := by decide +kernel
theorem d_SS_isBroken_50 : decode b_SS_isBroken 50 = .ok (.ifCond .eq (26), 3) := by decide +kernel
theorem d_SS_isBroken_53 : decode b_SS_isBroken 53 = .ok (.aload_n 0, 1) := by decide +kernel
theorem d_SS_isBroken_54 : decode b_SS_isBroken 54 = .ok (.getfield 26, 3) := by decide +kernel
theorem d_SS_isBroken_57 : decode b_SS_isBroken 57 = .ok (.iload_n 1, 1) := by decide +kernel
theorem d_SS_isBroken_58 : decode b_SS_isBroken 58 = .ok (.aload_n 0, 1) := by decide +kernel
theorem d_SS_isBroken_59 : decode b_SS_isBroken 59 = .ok (.iload_n 3, 1) := by decide +kernel
theorem d_SS_isBroken_60 : decode b_SS_isBroken 60 = .ok (.invokevirtual 247, 3) := by decide +kernel
theorem d_SS_isBroken_63 : decode b_SS_isBroken 63 = .ok (.ldc2_w 197, 3) := by decide +kernel
theorem d_SS_isBroken_66 : decode b_SS_isBroken 66 = .ok (.invokevirtual 284, 3) := by decide +kernel
theorem d_SS_isBroken_69 : decode b_SS_isBroken 69 = .ok (.ifCond .ne (7), 3) := by decide +kernel
theorem d_SS_isBroken_72 : decode b_SS_isBroken 72 = .ok (.iconst 1, 1) := by decide +kernel
theorem d_SS_isBroken_73 : decode b_SS_isBroken 73 = .ok (.goto (4), 3) := by decide +kernel
theorem d_SS_isBroken_76 : decode b_SS_isBroken 76 = .ok (.iconst 0, 1) := by decide +kernel
theorem d_SS_isBroken_77 : decode b_SS_isBroken 77 = .ok (.ireturn, 1) := by decide +kernel
theorem d_SS_isBroken_78 : decode b_SS_isBroken 78 = .ok (.aload_n 0, 1) := by decide +kernel
theorem d_SS_isBroken_79 : decode b_SS_isBroken 79 = .ok (.iload_n 3, 1) := by decide +kernel
theorem d_SS_isBroken_80 : decode b_SS_isBroken 80 = .ok (.iload_n 2, 1) := by decide +kernel
theorem d_SS_isBroken_81 : decode b_SS_isBroken 81 = .ok (.invokevirtual 170, 3) := by decide +kernel
theorem d_SS_isBroken_84 : decode b_SS_isBroken 84 = .ok (.ifCond .eq (45), 3) := by decide +kernel
theorem d_SS_isBroken_87 : decode b_SS_isBroken 87 = .ok (.aload_n 0, 1) := by decide +kernel
theorem d_SS_isBroken_88 : decode b_SS_isBroken 88 = .ok (.iload_n 3, 1) := by decide +kernel
theorem d_SS_isBroken_89 : decode b_SS_isBroken 89 = .ok (.iconst 1, 1) := by decide +kernel
theorem d_SS_isBroken_90 : decode b_SS_isBroken 90 = .ok (.iadd, 1) := by decide +kernel
theorem d_SS_isBroken_91 : decode b_SS_isBroken 91 = .ok (.iload_n 2, 1) := by decide +kernel
theorem d_SS_isBroken_92 : decode b_SS_isBroken 92 = .ok (.invokevirtual 170, 3) := by decide +kernel
theorem d_SS_isBroken_95 : decode b_SS_isBroken 95 = .ok (.ifCond .eq (34), 3) := by decide +kernel
theorem d_SS_isBroken_98 : decode b_SS_isBroken 98 = .ok (.aload_n 0, 1) := by decide +kernel
theorem d_SS_isBroken_99 : decode b_SS_isBroken 99 = .ok (.getfield 26, 3) := by decide +kernel
theorem d_SS_isBroken_102 : decode b_SS_isBroken 102 = .ok (.iload_n 1, 1) := by decide +kernel
theorem d_SS_isBroken_103 : decode b_SS_isBroken 103 = .ok (.aload_n 0, 1) := by decide +kernel
theorem d_SS_isBroken_104 : decode b_SS_isBroken 104 = .ok (.iload_n 3, 1) := by decide +kernel
theorem d_SS_isBroken_105 : decode b_SS_isBroken 105 = .ok (.invokevirtual 247, 3) := by decide +kernel
theorem d_SS_isBroken_108 : decode b_SS_isBroken 108 = .ok (.aload_n 0, 1) := by decide +kernel
theorem d_SS_isBroken_109 : decode b_SS_isBroken 109 = .ok (.iload_n 3, 1) := by decide +kernel
theorem d_SS_isBroken_110 : decode b_SS_isBroken 110 = .ok (.iconst 1, 1) := by decide +kernel
theorem d_SS_isBroken_111 : decode b_SS_isBroken 111 = .ok (.iadd, 1) := by decide +kernel
theorem d_SS_isBroken_112 : decode b_SS_isBroken 112 = .ok (.invokevirtual 247, 3) := by decide +kernel
theorem d_SS_isBroken_115 : decode b_SS_isBroken 115 = .ok (.lsub, 1) := by decide +kernel
theorem d_SS_isBroken_116 : decode b_SS_isBroken 116 = .ok (.ldc2_w 197, 3) := by decide +kernel
theorem d_SS_isBroken_119 : decode b_SS_isBroken 119 = .ok (.invokevirtual 284, 3) := by decide +kernel
theorem d_SS_isBroken_122 : decode b_SS_isBroken 122 = .ok (.ifCond .ne (7), 3) := by decide +kernel
theorem d_SS_isBroken_125 : decode b_SS_isBroken 125 = .ok (.iconst 1, 1) := by decide +kernel
theorem d_SS_isBroken_126 : decode b_SS_isBroken 126 = .ok (.goto (4), 3) := by decide +kernel
theorem d_SS_isBroken_129 : decode b_SS_isBroken 129 = .ok (.iconst 0, 1) := by decide +kernel
theorem d_SS_isBroken_130 : decode b_SS_isBroken 130 = .ok (.ireturn, 1) := by decide +kernel
theorem d_SS_isBroken_131 : decode b_SS_isBroken 131 = .ok (.aload_n 0, 1) := by decide +kernel
theorem d_SS_isBroken_132 : decode b_SS_isBroken 132 = .ok (.getfield 26, 3) := by decide +kernel
theorem d_SS_isBroken_135 : decode b_SS_isBroken 135 = .ok (.iload_n 1, 1) := by decide +kernel
theorem d_SS_isBroken_136 : decode b_SS_isBroken 136 = .ok (.aload_n 0, 1) := by decide +kernel
theorem d_SS_isBroken_137 : decode b_SS_isBroken 137 = .ok (.getfield 64, 3) := by decide +kernel
theorem d_SS_isBroken_140 : decode b_SS_isBroken 140 = .ok (.getfield 192, 3) := by decide +kernel
theorem d_SS_isBroken_143 : decode b_SS_isBroken 143 = .ok (.iload_n 3, 1) := by decide +kernel
theorem d_SS_isBroken_144 : decode b_SS_isBroken 144 = .ok (.laload, 1) := by decide +kernel
theorem d_SS_isBroken_145 : decode b_SS_isBroken 145 = .ok (.ldc2_w 288, 3) := by decide +kernel
theorem d_SS_isBroken_148 : decode b_SS_isBroken 148 = .ok (.invokevirtual 284, 3) := by decide +kernel
theorem d_SS_isBroken_151 : decode b_SS_isBroken 151 = .ok (.ifCond .ne (7), 3) := by decide +kernel
theorem d_SS_isBroken_154 : decode b_SS_isBroken 154 = .ok (.iconst 1, 1) := by decide +kernel
theorem d_SS_isBroken_155 : decode b_SS_isBroken 155 = .ok (.goto (4), 3) := by decide +kernel
theorem d_SS_isBroken_158 : decode b_SS_isBroken 158 = .ok (.iconst 0, 1) := by decide +kernel
theorem d_SS_isBroken_159 : decode b_SS_isBroken 159 = .ok (.ireturn, 1) := by decide +kernel
set_option maxHeartbeats 4000000 in
set_option maxRecDepth 100000 in
theorem c_SS_isBroken (l : Launch) (dC : Nat → ClassId) (dI : Nat → Nat → Nat) (cI cJ cG cZ : ClassId) (a : Nat → Nat) (fi : Nat → Int32) (fl : Nat → Int64) (ai : Nat → Nat → Int32) (al : Nat → Nat → Int64) (p0 : Int32) (p1 : Int32) (K : Int32 → Prop) (hw : SS_isBroken_w fi fl ai al p0 p1 K) : Met l y_SS_isBroken ws_SS_isBroken ({ frames := 3, cells := 0, slots := 0, locals := 67 }) (va_Pc [.ref (a 0), .int p0, .int p1] (zw_B (dC, dI) vwCl [(cI, .int), (cJ, .long), (cG, .array .int), (cZ, .boolean)] (cw cI cJ cG cZ a fi fl ai al))) (vp_Si K) 0 0 (fun _ => False) := by
  refine Met.ofW (cc := b_SS_isBroken) (maxL := 4) (ret := (Option.some FieldType.boolean)) (by decide) rfl ?_
  intro p e s m args below meth c s₁ B hml hv
  obtain ⟨rfl, hP, hK, hN⟩ := hv
  have hx := B.exec
  have hb := B.bytes
  have hr := B.returns
  have hts := atoms_spec (ws := ws_SS_isBroken) B.pre
  have ht : ∀ w ∈ zw_tbl, w.before _ s = true := fun w h => hts w (List.mem_cons_of_mem _ h)
  have hown : s.vm.findClass R_SS = some m.cls := findClass_of_methodNamed B.named
  have hlocks := B.notSynchronized
  have hl := lv_entry ([.ref (a 0), .int p0, .int p1] : List Value) (n := 4) (Nat.le_of_ble_eq_true rfl)
  rw [lg_entry_eq]
  generalize (lg_sl ([.ref (a 0), .int p0, .int p1] : List Value) ++ List.replicate (4 - (lg_sl ([.ref (a 0), .int p0, .int p1] : List Value)).length) Slot.unset).toArray = ls at hl ⊢
  have hl : lv_has ls 4 [(0, .ref (a 0)), (1, .int p0), (2, .int p1)] := hl
  unfold SS_isBroken_w at hw
  refine lv_aload_n hx hb d_SS_isBroken_0 rfl (lv_at hl 0 rfl) ?_
  refine va_get (D := (dC, dI)) (ci := 0) (v := .ref (a 12)) (C := R_SS) (T := T_SS) (N := 9) hx hb ht in_SS hown hK hP 0 rfl rfl 3 (by decide) (ht _ kw_245) (fun _ h9 => h9) rfl d_SS_isBroken_1 ?_
  refine va_get (D := (dC, dI)) (ci := 4) (v := .ref (a 14)) (C := R_Ru) (T := T_Ru) (N := 5) hx hb ht in_Ru hown hK hP 12 rfl rfl 1 (by decide) (ht _ kw_104) (fun _ h9 => h9) rfl d_SS_isBroken_4 ?_
  refine lv_iload_n hx hb d_SS_isBroken_7 rfl (lv_at hl 1 rfl) ?_
  obtain ⟨h8, hw⟩ := hw
  refine va_iald (f := ai 14) hx hb hK hP 14 0 rfl rfl h8 d_SS_isBroken_8 ?_
  refine lv_topi (fun v9 ev9 => ?_)
  have hw := zw_nm_x ev9 hw
  refine lv_istore_n (lv' := [(3, .int v9), (0, .ref (a 0)), (1, .int p0), (2, .int p1)]) hx hb d_SS_isBroken_9 rfl hl (by decide) rfl (fun ls hl => ?_)
  refine lv_aload_n hx hb d_SS_isBroken_10 rfl (lv_at hl 1 rfl) ?_
  refine va_get (D := (dC, dI)) (ci := 0) (v := .ref (a 12)) (C := R_SS) (T := T_SS) (N := 9) hx hb ht in_SS hown hK hP 0 rfl rfl 3 (by decide) (ht _ kw_245) (fun _ h9 => h9) rfl d_SS_isBroken_11 ?_
  refine va_get (D := (dC, dI)) (ci := 4) (v := .ref (a 13)) (C := R_Ru) (T := T_Ru) (N := 5) hx hb ht in_Ru hown hK hP 12 rfl rfl 0 (by decide) (ht _ kw_102) (fun _ h9 => h9) rfl d_SS_isBroken_14 ?_
  refine lv_iload_n hx hb d_SS_isBroken_17 rfl (lv_at hl 2 rfl) ?_
  obtain ⟨h18, hw⟩ := hw
  refine va_iald (f := ai 13) hx hb hK hP 13 0 rfl rfl h18 d_SS_isBroken_18 ?_
  by_cases c19_0 : (ai 13 p0.toNatClampNeg) = (0 : Int32)
  · have hw := zw_ite_t c19_0 hw
    refine lv_lookup (off := 25) (tgt := 44) hx hb d_SS_isBroken_19 (by decide) (by rw [c19_0]; rfl) (by decide) ?_
    refine lv_aload_n hx hb d_SS_isBroken_44 rfl (lv_at hl 1 rfl) ?_
    refine lv_iload_n hx hb d_SS_isBroken_45 rfl (lv_at hl 0 rfl) ?_
    refine lv_iload_n hx hb d_SS_isBroken_46 rfl (lv_at hl 3 rfl) ?_
    refine vp_callSi (va_Run.run (va_runV (As := [.int v9, .int p1]) (rest := []) ⟨hx, hb, hml, hown, hts⟩ (c_SS_isThere l dC dI cI cJ cG cZ a fi fl ai al v9 p1 _ hw) (cwV 2 hts (zw_goodV kw_407 kw_409 kw_s1 kw_1 kw_410) rfl rfl rfl hd_SS_isThere ⟨Nat.le_of_ble_eq_true rfl, Nat.le_of_ble_eq_true rfl⟩) (zw_preV (ci := 0) (q0 := 0) hK hN hP rfl rfl) rfl rfl hl.1 rfl (lv_room (Nat.le_of_ble_eq_true rfl)) d_SS_isBroken_47 ⟨Nat.le_of_ble_eq_true rfl, Nat.le_of_ble_eq_true rfl⟩)) (fun r47 hw => ?_)
    refine lv_if_eq (tgt := 76) hx hb d_SS_isBroken_50 (by decide) (fun c50 => ?_) (fun c50 => ?_)
    · have hw := zw_ite_t c50 hw
      refine lv_iconst (v := (0 : Int32)) hx hb d_SS_isBroken_76 (by decide) ?_
      exact W.zret (v := (0 : Int32)) (ty := .boolean) hx hb hr rfl (fun t ht hW => ⟨(0 : Int32), rfl, hw, ht⟩) t_nil d_SS_isBroken_77
    · have hw := zw_ite_f c50 hw
      refine lv_aload_n hx hb d_SS_isBroken_53 rfl (lv_at hl 1 rfl) ?_
      refine va_get (D := (dC, dI)) (ci := 0) (v := .ref (a 12)) (C := R_SS) (T := T_SS) (N := 9) hx hb ht in_SS hown hK hP 0 rfl rfl 3 (by decide) (ht _ kw_245) (fun _ h9 => h9) rfl d_SS_isBroken_54 ?_
      refine lv_iload_n hx hb d_SS_isBroken_57 rfl (lv_at hl 2 rfl) ?_
      refine lv_aload_n hx hb d_SS_isBroken_58 rfl (lv_at hl 1 rfl) ?_
      refine lv_iload_n hx hb d_SS_isBroken_59 rfl (lv_at hl 0 rfl) ?_
      refine vp_callSl (va_Run.run (va_runV (As := [.int v9]) (rest := [.int p0, .ref (a 12)]) ⟨hx, hb, hml, hown, hts⟩ (c_SS_heightNow l dC dI cI cJ cG cZ a fi fl ai al v9 _ hw) (cwV 1 hts (zw_goodV kw_473 kw_475 kw_s9 kw_1 kw_476) rfl rfl rfl hd_SS_heightNow ⟨Nat.le_of_ble_eq_true rfl, Nat.le_of_ble_eq_true rfl⟩) (zw_preV (ci := 0) (q0 := 0) hK hN hP rfl rfl) rfl rfl hl.1 rfl (lv_room (Nat.le_of_ble_eq_true rfl)) d_SS_isBroken_60 ⟨Nat.le_of_ble_eq_true rfl, Nat.le_of_ble_eq_true rfl⟩)) (fun r60 hw => ?_)
      refine lv_ldc2 (v := (1000000000 : Int64)) hx hb hown (hts (.constantLong R_SS 197 (1000000000 : Int64)) (by decide +kernel)) d_SS_isBroken_63 ?_
      refine vp_callSi (va_Run.run (va_runV (As := [.int p0, .long r60, .long (1000000000 : Int64)]) (rest := []) ⟨hx, hb, hml, hown, hts⟩ (c_Ru_allows l dC dI cI cJ cG cZ a fi fl ai al p0 r60 (1000000000 : Int64) _ hw) (cwV 3 hts (zw_goodV kw_532 kw_533 kw_534 kw_4 kw_535) rfl rfl rfl hd_Ru_allows ⟨Nat.le_of_ble_eq_true rfl, Nat.le_of_ble_eq_true rfl⟩) (zw_preV (ci := 4) (q0 := 12) hK hN hP rfl rfl) rfl rfl hl.1 rfl (lv_room (Nat.le_of_ble_eq_true rfl)) d_SS_isBroken_66 ⟨Nat.le_of_ble_eq_true rfl, Nat.le_of_ble_eq_true rfl⟩)) (fun r66 hw => ?_)
      refine lv_if_ne (tgt := 76) hx hb d_SS_isBroken_69 (by decide) (fun c69 => ?_) (fun c69 => ?_)
      · have hw := zw_ite_f c69 hw
        refine lv_iconst (v := (0 : Int32)) hx hb d_SS_isBroken_76 (by decide) ?_
        exact W.zret (v := (0 : Int32)) (ty := .boolean) hx hb hr rfl (fun t ht hW => ⟨(0 : Int32), rfl, hw, ht⟩) t_nil d_SS_isBroken_77
      · have hw := zw_ite_t c69 hw
        refine lv_iconst (v := (1 : Int32)) hx hb d_SS_isBroken_72 (by decide) ?_
        refine lv_goto (tgt := 77) hx hb d_SS_isBroken_73 (by decide) ?_
        exact W.zret (v := (1 : Int32)) (ty := .boolean) hx hb hr rfl (fun t ht hW => ⟨(1 : Int32), rfl, hw, ht⟩) t_nil d_SS_isBroken_77
  · have hw := zw_ite_f c19_0 hw
    by_cases c19_1 : (ai 13 p0.toNatClampNeg) = (1 : Int32)
    · have hw := zw_ite_t c19_1 hw
      refine lv_lookup (off := 59) (tgt := 78) hx hb d_SS_isBroken_19 (by decide) (by rw [c19_1]; rfl) (by decide) ?_
      refine lv_aload_n hx hb d_SS_isBroken_78 rfl (lv_at hl 1 rfl) ?_
      refine lv_iload_n hx hb d_SS_isBroken_79 rfl (lv_at hl 0 rfl) ?_
      refine lv_iload_n hx hb d_SS_isBroken_80 rfl (lv_at hl 3 rfl) ?_
      refine vp_callSi (va_Run.run (va_runV (As := [.int v9, .int p1]) (rest := []) ⟨hx, hb, hml, hown, hts⟩ (c_SS_isThere l dC dI cI cJ cG cZ a fi fl ai al v9 p1 _ hw) (cwV 2 hts (zw_goodV kw_407 kw_409 kw_s1 kw_1 kw_410) rfl rfl rfl hd_SS_isThere ⟨Nat.le_of_ble_eq_true rfl, Nat.le_of_ble_eq_true rfl⟩) (zw_preV (ci := 0) (q0 := 0) hK hN hP rfl rfl) rfl rfl hl.1 rfl (lv_room (Nat.le_of_ble_eq_true rfl)) d_SS_isBroken_81 ⟨Nat.le_of_ble_eq_true rfl, Nat.le_of_ble_eq_true rfl⟩)) (fun r81 hw => ?_)
      refine lv_if_eq (tgt := 129) hx hb d_SS_isBroken_84 (by decide) (fun c84 => ?_) (fun c84 => ?_)
      · have hw := zw_ite_t c84 hw
        refine lv_iconst (v := (0 : Int32)) hx hb d_SS_isBroken_129 (by decide) ?_
        exact W.zret (v := (0 : Int32)) (ty := .boolean) hx hb hr rfl (fun t ht hW => ⟨(0 : Int32), rfl, hw, ht⟩) t_nil d_SS_isBroken_130
      · have hw := zw_ite_f c84 hw
        refine lv_aload_n hx hb d_SS_isBroken_87 rfl (lv_at hl 1 rfl) ?_
        refine lv_iload_n hx hb d_SS_isBroken_88 rfl (lv_at hl 0 rfl) ?_
        refine lv_iconst (v := (1 : Int32)) hx hb d_SS_isBroken_89 (by decide) ?_
        refine lv_iadd hx hb d_SS_isBroken_90 ?_
        refine lv_iload_n hx hb d_SS_isBroken_91 rfl (lv_at hl 3 rfl) ?_
        refine vp_callSi (va_Run.run (va_runV (As := [.int (v9 + (1 : Int32)), .int p1]) (rest := []) ⟨hx, hb, hml, hown, hts⟩ (c_SS_isThere l dC dI cI cJ cG cZ a fi fl ai al (v9 + (1 : Int32)) p1 _ hw) (cwV 2 hts (zw_goodV kw_407 kw_409 kw_s1 kw_1 kw_410) rfl rfl rfl hd_SS_isThere ⟨Nat.le_of_ble_eq_true rfl, Nat.le_of_ble_eq_true rfl⟩) (zw_preV (ci := 0) (q0 := 0) hK hN hP rfl rfl) rfl rfl hl.1 rfl (lv_room (Nat.le_of_ble_eq_true rfl)) d_SS_isBroken_92 ⟨Nat.le_of_ble_eq_true rfl, Nat.le_of_ble_eq_true rfl⟩)) (fun r92 hw => ?_)
        refine lv_if_eq (tgt := 129) hx hb d_SS_isBroken_95 (by decide) (fun c95 => ?_) (fun c95 => ?_)
        · have hw := zw_ite_t c95 hw
          refine lv_iconst (v := (0 : Int32)) hx hb d_SS_isBroken_129 (by decide) ?_
          exact W.zret (v := (0 : Int32)) (ty := .boolean) hx hb hr rfl (fun t ht hW => ⟨(0 : Int32), rfl, hw, ht⟩) t_nil d_SS_isBroken_130
        · have hw := zw_ite_f c95 hw
          refine lv_aload_n hx hb d_SS_isBroken_98 rfl (lv_at hl 1 rfl) ?_
          refine va_get (D := (dC, dI)) (ci := 0) (v := .ref (a 12)) (C := R_SS) (T := T_SS) (N := 9) hx hb ht in_SS hown hK hP 0 rfl rfl 3 (by decide) (ht _ kw_245) (fun _ h9 => h9) rfl d_SS_isBroken_99 ?_
          refine lv_iload_n hx hb d_SS_isBroken_102 rfl (lv_at hl 2 rfl) ?_
          refine lv_aload_n hx hb d_SS_isBroken_103 rfl (lv_at hl 1 rfl) ?_
          refine lv_iload_n hx hb d_SS_isBroken_104 rfl (lv_at hl 0 rfl) ?_
          refine vp_callSl (va_Run.run (va_runV (As := [.int v9]) (rest := [.int p0, .ref (a 12)]) ⟨hx, hb, hml, hown, hts⟩ (c_SS_heightNow l dC dI cI cJ cG cZ a fi fl ai al v9 _ hw) (cwV 1 hts (zw_goodV kw_473 kw_475 kw_s9 kw_1 kw_476) rfl rfl rfl hd_SS_heightNow ⟨Nat.le_of_ble_eq_true rfl, Nat.le_of_ble_eq_true rfl⟩) (zw_preV (ci := 0) (q0 := 0) hK hN hP rfl rfl) rfl rfl hl.1 rfl (lv_room (Nat.le_of_ble_eq_true rfl)) d_SS_isBroken_105 ⟨Nat.le_of_ble_eq_true rfl, Nat.le_of_ble_eq_true rfl⟩)) (fun r105 hw => ?_)
          refine lv_aload_n hx hb d_SS_isBroken_108 rfl (lv_at hl 1 rfl) ?_
          refine lv_iload_n hx hb d_SS_isBroken_109 rfl (lv_at hl 0 rfl) ?_
          refine lv_iconst (v := (1 : Int32)) hx hb d_SS_isBroken_110 (by decide) ?_
          refine lv_iadd hx hb d_SS_isBroken_111 ?_
          refine vp_callSl (va_Run.run (va_runV (As := [.int (v9 + (1 : Int32))]) (rest := [.long r105, .int p0, .ref (a 12)]) ⟨hx, hb, hml, hown, hts⟩ (c_SS_heightNow l dC dI cI cJ cG cZ a fi fl ai al (v9 + (1 : Int32)) _ hw) (cwV 1 hts (zw_goodV kw_473 kw_475 kw_s9 kw_1 kw_476) rfl rfl rfl hd_SS_heightNow ⟨Nat.le_of_ble_eq_true rfl, Nat.le_of_ble_eq_true rfl⟩) (zw_preV (ci := 0) (q0 := 0) hK hN hP rfl rfl) rfl rfl hl.1 rfl (lv_room (Nat.le_of_ble_eq_true rfl)) d_SS_isBroken_112 ⟨Nat.le_of_ble_eq_true rfl, Nat.le_of_ble_eq_true rfl⟩)) (fun r112 hw => ?_)
          refine lv_lsub hx hb d_SS_isBroken_115 ?_
          refine lv_ldc2 (v := (1000000000 : Int64)) hx hb hown (hts (.constantLong R_SS 197 (1000000000 : Int64)) (by decide +kernel)) d_SS_isBroken_116 ?_
          refine vp_callSi (va_Run.run (va_runV (As := [.int p0, .long (r105 - r112), .long (1000000000 : Int64)]) (rest := []) ⟨hx, hb, hml, hown, hts⟩ (c_Ru_allows l dC dI cI cJ cG cZ a fi fl ai al p0 (r105 - r112) (1000000000 : Int64) _ hw) (cwV 3 hts (zw_goodV kw_532 kw_533 kw_534 kw_4 kw_535) rfl rfl rfl hd_Ru_allows ⟨Nat.le_of_ble_eq_true rfl, Nat.le_of_ble_eq_true rfl⟩) (zw_preV (ci := 4) (q0 := 12) hK hN hP rfl rfl) rfl rfl hl.1 rfl (lv_room (Nat.le_of_ble_eq_true rfl)) d_SS_isBroken_119 ⟨Nat.le_of_ble_eq_true rfl, Nat.le_of_ble_eq_true rfl⟩)) (fun r119 hw => ?_)
          refine lv_if_ne (tgt := 129) hx hb d_SS_isBroken_122 (by decide) (fun c122 => ?_) (fun c122 => ?_)
          · have hw := zw_ite_f c122 hw
            refine lv_iconst (v := (0 : Int32)) hx hb d_SS_isBroken_129 (by decide) ?_
            exact W.zret (v := (0 : Int32)) (ty := .boolean) hx hb hr rfl (fun t ht hW => ⟨(0 : Int32), rfl, hw, ht⟩) t_nil d_SS_isBroken_130
          · have hw := zw_ite_t c122 hw
            refine lv_iconst (v := (1 : Int32)) hx hb d_SS_isBroken_125 (by decide) ?_
            refine lv_goto (tgt := 130) hx hb d_SS_isBroken_126 (by decide) ?_
            exact W.zret (v := (1 : Int32)) (ty := .boolean) hx hb hr rfl (fun t ht hW => ⟨(1 : Int32), rfl, hw, ht⟩) t_nil d_SS_isBroken_130
    · have hw := zw_ite_f c19_1 hw
      refine lv_lookup (off := 112) (tgt := 131) hx hb d_SS_isBroken_19 (by decide) (by rw [lv_osw c19_0 (by decide)]; rw [lv_osw c19_1 (by decide)]; rfl) (by decide) ?_
      refine lv_aload_n hx hb d_SS_isBroken_131 rfl (lv_at hl 1 rfl) ?_
      refine va_get (D := (dC, dI)) (ci := 0) (v := .ref (a 12)) (C := R_SS) (T := T_SS) (N := 9) hx hb ht in_SS hown hK hP 0 rfl rfl 3 (by decide) (ht _ kw_245) (fun _ h9 => h9) rfl d_SS_isBroken_132 ?_
      refine lv_iload_n hx hb d_SS_isBroken_135 rfl (lv_at hl 2 rfl) ?_
      refine lv_aload_n hx hb d_SS_isBroken_136 rfl (lv_at hl 1 rfl) ?_
      refine va_get (D := (dC, dI)) (ci := 0) (v := .ref (a 40)) (C := R_SS) (T := T_SS) (N := 9) hx hb ht in_SS hown hK hP 0 rfl rfl 4 (by decide) (ht _ kw_246) (fun _ h9 => h9) rfl d_SS_isBroken_137 ?_
      refine va_get (D := (dC, dI)) (ci := 6) (v := .ref (a 42)) (C := R_Wa) (T := T_Wa) (N := 11) hx hb ht in_Wa hown hK hP 40 rfl rfl 4 (by decide) (ht _ kw_182) (fun _ h9 => h9) rfl d_SS_isBroken_140 ?_
      refine lv_iload_n hx hb d_SS_isBroken_143 rfl (lv_at hl 0 rfl) ?_
      obtain ⟨h144, hw⟩ := hw
      refine va_lald (f := al 42) hx hb hK hP 42 1 rfl rfl h144 d_SS_isBroken_144 ?_
      refine lv_ldc2 (v := (1000 : Int64)) hx hb hown (hts (.constantLong R_SS 288 (1000 : Int64)) (by decide +kernel)) d_SS_isBroken_145 ?_
      refine vp_callSi (va_Run.run (va_runV (As := [.int p0, .long (al 42 v9.toNatClampNeg), .long (1000 : Int64)]) (rest := []) ⟨hx, hb, hml, hown, hts⟩ (c_Ru_allows l dC dI cI cJ cG cZ a fi fl ai al p0 (al 42 v9.toNatClampNeg) (1000 : Int64) _ hw) (cwV 3 hts (zw_goodV kw_532 kw_533 kw_534 kw_4 kw_535) rfl rfl rfl hd_Ru_allows ⟨Nat.le_of_ble_eq_true rfl, Nat.le_of_ble_eq_true rfl⟩) (zw_preV (ci := 4) (q0 := 12) hK hN hP rfl rfl) rfl rfl hl.1 rfl (lv_room (Nat.le_of_ble_eq_true rfl)) d_SS_isBroken_148 ⟨Nat.le_of_ble_eq_true rfl, Nat.le_of_ble_eq_true rfl⟩)) (fun r148 hw => ?_)
      refine lv_if_ne (tgt := 158) hx hb d_SS_isBroken_151 (by decide) (fun c151 => ?_) (fun c151 => ?_)
      · have hw := zw_ite_f c151 hw
        refine lv_iconst (v := (0 : Int32)) hx hb d_SS_isBroken_158 (by decide) ?_
        exact W.zret (v := (0 : Int32)) (ty := .boolean) hx hb hr rfl (fun t ht hW => ⟨(0 : Int32), rfl, hw, ht⟩) t_nil d_SS_isBroken_159
      · have hw := zw_ite_t c151 hw
        refine lv_iconst (v := (1 : Int32)) hx hb d_SS_isBroken_154 (by decide) ?_
        refine lv_goto (tgt := 159) hx hb d_SS_isBroken_155 (by decide) ?_
        exact W.zret (v := (1 : Int32)) (ty := .boolean) hx hb hr rfl (fun t ht hW => ⟨(1 : Int32), rfl, hw, ht⟩) t_nil d_SS_isBroken_159
