def Wa_greatestSize_w (fi : Nat → Int32) (fl : Nat → Int64) (ai : Nat → Nat → Int32) (al : Nat → Nat → Int64) (K : Int64 → Prop) : Prop :=
  zw_nm (0 : Int64) (fun (v1 : Int64) =>
  zw_nm (0 : Int32) (fun (v3 : Int32) =>
  zw_lp2 (fun L4 (x4_1 : Int64) (x4_3 : Int32) =>
  if (fi 7) ≤ x4_3 then (
    K x4_1)
  else (
    vp_in x4_3 6 ∧ (
    zw_jn1 (fun (x38_1 : Int64) =>
    zw_nm (x4_3 + (1 : Int32)) (fun (v38 : Int32) =>
    L4 x38_1 v38)) (fun J38 =>
    if (ai 43 x4_3.toNatClampNeg) < 0 then (
      J38 x4_1)
    else (
      vp_in x4_3 6 ∧ (
      zw_nm (if 0 < (al 41 x4_3.toNatClampNeg) then (al 41 x4_3.toNatClampNeg) else -(al 41 x4_3.toNatClampNeg)) (fun (v31 : Int64) =>
      zw_nm (if v31 < x4_1 then x4_1 else v31) (fun (v34 : Int64) =>
      J38 v34)))))))) v1 v3))
theorem d_Wa_greatestSize_0 : decode b_Wa_greatestSize 0 = .ok (.lconst 0, 1) := by decide +kernel
theorem d_Wa_greatestSize_1 : decode b_Wa_greatestSize 1 = .ok (.lstore_n 1, 1) := by decide +kernel
theorem d_Wa_greatestSize_2 : decode b_Wa_greatestSize 2 = .ok (.iconst 0, 1) := by decide +kernel
theorem d_Wa_greatestSize_3 : decode b_Wa_greatestSize 3 = .ok (.istore_n 3, 1) := by decide +kernel
theorem d_Wa_greatestSize_4 : decode b_Wa_greatestSize 4 = .ok (.iload_n 3, 1) := by decide +kernel
theorem d_Wa_greatestSize_5 : decode b_Wa_greatestSize 5 = .ok (.aload_n 0, 1) := by decide +kernel
theorem d_Wa_greatestSize_6 : decode b_Wa_greatestSize 6 = .ok (.getfield 30, 3) := by decide +kernel
theorem d_Wa_greatestSize_9 : decode b_Wa_greatestSize 9 = .ok (.getfield 100, 3) := by decide +kernel
theorem d_Wa_greatestSize_12 : decode b_Wa_greatestSize 12 = .ok (.if_icmp .ge (32), 3) := by decide +kernel
theorem d_Wa_greatestSize_15 : decode b_Wa_greatestSize 15 = .ok (.aload_n 0, 1) := by decide +kernel
theorem d_Wa_greatestSize_16 : decode b_Wa_greatestSize 16 = .ok (.getfield 18, 3) := by decide +kernel
theorem d_Wa_greatestSize_19 : decode b_Wa_greatestSize 19 = .ok (.iload_n 3, 1) := by decide +kernel
theorem d_Wa_greatestSize_20 : decode b_Wa_greatestSize 20 = .ok (.iaload, 1) := by decide +kernel
theorem d_Wa_greatestSize_21 : decode b_Wa_greatestSize 21 = .ok (.ifCond .lt (17), 3) := by decide +kernel
theorem d_Wa_greatestSize_24 : decode b_Wa_greatestSize 24 = .ok (.lload_n 1, 1) := by decide +kernel
theorem d_Wa_greatestSize_25 : decode b_Wa_greatestSize 25 = .ok (.aload_n 0, 1) := by decide +kernel
theorem d_Wa_greatestSize_26 : decode b_Wa_greatestSize 26 = .ok (.getfield 9, 3) := by decide +kernel
theorem d_Wa_greatestSize_29 : decode b_Wa_greatestSize 29 = .ok (.iload_n 3, 1) := by decide +kernel
theorem d_Wa_greatestSize_30 : decode b_Wa_greatestSize 30 = .ok (.laload, 1) := by decide +kernel
theorem d_Wa_greatestSize_31 : decode b_Wa_greatestSize 31 = .ok (.invokestatic 105, 3) := by decide +kernel
theorem d_Wa_greatestSize_34 : decode b_Wa_greatestSize 34 = .ok (.invokestatic 111, 3) := by decide +kernel
theorem d_Wa_greatestSize_37 : decode b_Wa_greatestSize 37 = .ok (.lstore_n 1, 1) := by decide +kernel
theorem d_Wa_greatestSize_38 : decode b_Wa_greatestSize 38 = .ok (.iinc 3 (1), 3) := by decide +kernel
theorem d_Wa_greatestSize_41 : decode b_Wa_greatestSize 41 = .ok (.goto (-37), 3) := by decide +kernel
theorem d_Wa_greatestSize_44 : decode b_Wa_greatestSize 44 = .ok (.lload_n 1, 1) := by decide +kernel
theorem d_Wa_greatestSize_45 : decode b_Wa_greatestSize 45 = .ok (.lreturn, 1) := by decide +kernel
set_option maxHeartbeats 4000000 in
set_option maxRecDepth 100000 in
theorem c_Wa_greatestSize (l : Launch) (dC : Nat → ClassId) (dI : Nat → Nat → Nat) (cI cJ cG cZ : ClassId) (a : Nat → Nat) (fi : Nat → Int32) (fl : Nat → Int64) (ai : Nat → Nat → Int32) (al : Nat → Nat → Int64) (K : Int64 → Prop) (hw : Wa_greatestSize_w fi fl ai al K) : Met l y_Wa_greatestSize ws_Wa_greatestSize ({ frames := 1, cells := 0, slots := 0, locals := 23 }) (va_Pc [.ref (a 40)] (zw_B (dC, dI) vwCl [(cI, .int), (cJ, .long), (cG, .array .int), (cZ, .boolean)] (cw cI cJ cG cZ a fi fl ai al))) (vp_Sl K) 0 0 (fun _ => False) := by
  refine Met.ofW (cc := b_Wa_greatestSize) (maxL := 4) (ret := (Option.some FieldType.long)) (by decide) rfl ?_
  intro p e s m args below meth c s₁ B hml hv
  obtain ⟨rfl, hP, hK, hN⟩ := hv
  have hx := B.exec
  have hb := B.bytes
  have hr := B.returns
  have hts := atoms_spec (ws := ws_Wa_greatestSize) B.pre
  have ht : ∀ w ∈ zw_tbl, w.before _ s = true := fun w h => hts w (List.mem_cons_of_mem _ h)
  have hown : s.vm.findClass R_Wa = some m.cls := findClass_of_methodNamed B.named
  have hlocks := B.notSynchronized
  have hl := lv_entry ([.ref (a 40)] : List Value) (n := 4) (Nat.le_of_ble_eq_true rfl)
  rw [lg_entry_eq]
  generalize (lg_sl ([.ref (a 40)] : List Value) ++ List.replicate (4 - (lg_sl ([.ref (a 40)] : List Value)).length) Slot.unset).toArray = ls at hl ⊢
  have hl : lv_has ls 4 [(0, .ref (a 40))] := hl
  unfold Wa_greatestSize_w at hw
  refine lv_lconst (v := (0 : Int64)) hx hb d_Wa_greatestSize_0 (by decide) ?_
  refine lv_topl (fun v1 ev1 => ?_)
  have hw := zw_nm_x ev1 hw
  refine lv_lstore_n (lv' := [(1, .long v1), (0, .ref (a 40))]) hx hb d_Wa_greatestSize_1 rfl hl (by decide) rfl (fun ls hl => ?_)
  refine lv_iconst (v := (0 : Int32)) hx hb d_Wa_greatestSize_2 (by decide) ?_
  refine lv_topi (fun v3 ev3 => ?_)
  have hw := zw_nm_x ev3 hw
  refine lv_istore_n (lv' := [(3, .int v3), (1, .long v1), (0, .ref (a 40))]) hx hb d_Wa_greatestSize_3 rfl hl (by decide) rfl (fun ls hl => ?_)
  refine (zw_lp2_i (P := fun (x4_1 : Int64) (x4_3 : Int32) => ∀ (ls : Array Slot), lv_has ls 4 [(0, .ref (a 40)), (1, .long x4_1), (3, .int x4_3)] → W p l e (headSpec ws_Wa_greatestSize ({ frames := 1, cells := 0, slots := 0, locals := 23 })).room s m ([.ref (a 40)] : List Value).toArray below meth c s.heap [] 0 0 (MQ below (vp_Sl K) ([.ref (a 40)] : List Value).toArray s 0 0 (fun _ => False)) (F0 m 4 ls [])) hw (fun L4 x4_1 x4_3 ih4 hw ls hl => ?_)) ls (lv_sub hl [2, 1, 0] rfl)
  refine lv_iload_n hx hb d_Wa_greatestSize_4 rfl (lv_at hl 2 rfl) ?_
  refine lv_aload_n hx hb d_Wa_greatestSize_5 rfl (lv_at hl 0 rfl) ?_
  refine va_get (D := (dC, dI)) (ci := 6) (v := .ref (a 19)) (C := R_Wa) (T := T_Wa) (N := 11) hx hb ht in_Wa hown hK hP 40 rfl rfl 0 (by decide) (ht _ kw_176) (fun _ h9 => h9) rfl d_Wa_greatestSize_6 ?_
  refine va_get (D := (dC, dI)) (ci := 2) (v := .int (fi 7)) (C := R_Gi) (T := T_Gi) (N := 7) hx hb ht in_Gi hown hK hP 19 rfl rfl 0 (by decide) (ht _ kw_136) (fun _ h9 => h9) rfl d_Wa_greatestSize_9 ?_
  refine lv_icmp_ge (tgt := 44) hx hb d_Wa_greatestSize_12 (by decide) (fun c12 => ?_) (fun c12 => ?_)
  · have hw := zw_ite_t c12 hw
    refine lv_lload_n hx hb d_Wa_greatestSize_44 rfl (lv_at hl 1 rfl) ?_
    exact W.lret (v := x4_1) hx hb hr (fun t ht hW => ⟨x4_1, rfl, hw, ht⟩) t_nil d_Wa_greatestSize_45
  · have hw := zw_ite_f c12 hw
    refine lv_aload_n hx hb d_Wa_greatestSize_15 rfl (lv_at hl 0 rfl) ?_
    refine va_get (D := (dC, dI)) (ci := 6) (v := .ref (a 43)) (C := R_Wa) (T := T_Wa) (N := 11) hx hb ht in_Wa hown hK hP 40 rfl rfl 5 (by decide) (ht _ kw_183) (fun _ h9 => h9) rfl d_Wa_greatestSize_16 ?_
    refine lv_iload_n hx hb d_Wa_greatestSize_19 rfl (lv_at hl 2 rfl) ?_
    obtain ⟨h20, hw⟩ := hw
    refine va_iald (f := ai 43) hx hb hK hP 43 0 rfl rfl h20 d_Wa_greatestSize_20 ?_
    refine zw_jn1_i (P := fun (x38_1 : Int64) => ∀ (ls : Array Slot), lv_has ls 4 [(0, .ref (a 40)), (1, .long x38_1), (3, .int x4_3)] → W p l e (headSpec ws_Wa_greatestSize ({ frames := 1, cells := 0, slots := 0, locals := 23 })).room s m ([.ref (a 40)] : List Value).toArray below meth c s.heap [] 0 0 (MQ below (vp_Sl K) ([.ref (a 40)] : List Value).toArray s 0 0 (fun _ => False)) (F0 m 38 ls [])) hw (fun x38_1 hw ls hl => ?_) (fun J38 hj38 hw => ?_)
    · obtain ⟨v38, ev38⟩ : ∃ y : Int32, y = x4_3 + (1 : Int32) := ⟨_, rfl⟩
      refine lv_iinc (v := v38) (lv' := [(3, .int v38), (0, .ref (a 40)), (1, .long x38_1)]) hx hb d_Wa_greatestSize_38 hl (k := 2) rfl (by rw [ev38]; rfl) (by decide) rfl (fun ls hl => ?_)
      have hw := zw_nm_x ev38 hw
      refine lv_goto (tgt := 4) hx hb d_Wa_greatestSize_41 (by decide) ?_
      exact (ih4 x38_1 v38 hw) ls (lv_sub hl [1, 2, 0] rfl)
    · refine lv_if_lt (tgt := 38) hx hb d_Wa_greatestSize_21 (by decide) (fun c21 => ?_) (fun c21 => ?_)
      · have hw := zw_ite_t c21 hw
        exact (hj38 x4_1 hw) ls (lv_sub hl [0, 1, 2] rfl)
      · have hw := zw_ite_f c21 hw
        refine lv_lload_n hx hb d_Wa_greatestSize_24 rfl (lv_at hl 1 rfl) ?_
        refine lv_aload_n hx hb d_Wa_greatestSize_25 rfl (lv_at hl 0 rfl) ?_
        refine va_get (D := (dC, dI)) (ci := 6) (v := .ref (a 41)) (C := R_Wa) (T := T_Wa) (N := 11) hx hb ht in_Wa hown hK hP 40 rfl rfl 3 (by decide) (ht _ kw_179) (fun _ h9 => h9) rfl d_Wa_greatestSize_26 ?_
        refine lv_iload_n hx hb d_Wa_greatestSize_29 rfl (lv_at hl 2 rfl) ?_
        obtain ⟨h30, hw⟩ := hw
        refine va_lald (f := al 41) hx hb hK hP 41 1 rfl rfl h30 d_Wa_greatestSize_30 ?_
        refine va_mabs_long hx hb (hml.trans hl.1.symm) hown (ht _ kw_587) (ht _ kw_588) (ht _ kw_6) (ht _ kw_589) (Nat.le_of_ble_eq_true rfl) (Nat.le_of_ble_eq_true rfl) (Nat.le_of_ble_eq_true rfl) (Nat.le_of_ble_eq_true rfl) d_Wa_greatestSize_31 ?_
        refine lv_topl (fun v31 ev31 => ?_)
        have hw := zw_nm_x ev31 hw
        refine va_mmax_long hx hb (hml.trans hl.1.symm) hown (ht _ kw_590) (ht _ kw_506) (ht _ kw_6) (ht _ kw_507) (Nat.le_of_ble_eq_true rfl) (Nat.le_of_ble_eq_true rfl) (Nat.le_of_ble_eq_true rfl) (Nat.le_of_ble_eq_true rfl) d_Wa_greatestSize_34 ?_
        refine lv_topl (fun v34 ev34 => ?_)
        have hw := zw_nm_x ev34 hw
        refine lv_lstore_n (lv' := [(1, .long v34), (0, .ref (a 40)), (3, .int x4_3)]) hx hb d_Wa_greatestSize_37 rfl hl (by decide) rfl (fun ls hl => ?_)
        exact (hj38 v34 hw) ls (lv_sub hl [1, 0, 2] rfl)
def Se_weigh_w (fi : Nat → Int32) (fl : Nat → Int64) (ai : Nat → Nat → Int32) (al : Nat → Nat → Int64) (K : (Nat → Int32) → (Nat → Int64) → (Nat → Nat → Int32) → (Nat → Nat → Int64) → Prop) : Prop :=
  Wa_go_w fi fl ai al 59 (fun (r8 : Int32) (fi_8 : Nat → Int32) (ai_8 : Nat → Nat → Int32) (al_8 : Nat → Nat → Int64) =>
  if r8 = 0 then (
    K fi_8 fl ai_8 al_8)
  else (
    Wa_greatestSize_w fi_8 fl ai_8 al_8  (fun (r19 : Int64) =>
    zw_jn0 (
    zw_nm (va_up fl 0 r19) (fun (fl_43 : Nat → Int64) =>
    zw_nm (va_up fi_8 11 (fi_8 4)) (fun (fi_54 : Nat → Int32) =>
    ¬ (fi_54 4) < 0 ∧ (0 : Int32).toNatClampNeg + (fi_54 4).toNatClampNeg ≤ 6 ∧ (0 : Int32).toNatClampNeg + (fi_54 4).toNatClampNeg ≤ 6 ∧ (zw_nm (va_up ai_8 60 (va_cpy (ai_8 59) (ai_8 60) (0 : Int32).toNatClampNeg (0 : Int32).toNatClampNeg (fi_54 4).toNatClampNeg)) (fun (ai_74 : Nat → Nat → Int32) =>
    K fi_54 fl_43 ai_74 al_8))))) (fun J41 =>
    if (fl 0) < (0 : Int64) then (
      J41)
    else (
      if (fl 0) ≤ r19 then (
        K fi_8 fl ai_8 al_8)
      else (
        J41))))))
theorem d_Se_weigh_0 : decode b_Se_weigh 0 = .ok (.aload_n 0, 1) := by decide +kernel
theorem d_Se_weigh_1 : decode b_Se_weigh 1 = .ok (.getfield 26, 3) := by decide +kernel
theorem d_Se_weigh_4 : decode b_Se_weigh 4 = .ok (.aload_n 0, 1) := by decide +kernel
theorem d_Se_weigh_5 : decode b_Se_weigh 5 = .ok (.getfield 9, 3) := by decide +kernel
theorem d_Se_weigh_8 : decode b_Se_weigh 8 = .ok (.invokevirtual 77, 3) := by decide +kernel
theorem d_Se_weigh_11 : decode b_Se_weigh 11 = .ok (.ifCond .ne (4), 3) := by decide +kernel
theorem d_Se_weigh_14 : decode b_Se_weigh 14 = .ok (.return_, 1) := by decide +kernel
theorem d_Se_weigh_15 : decode b_Se_weigh 15 = .ok (.aload_n 0, 1) := by decide +kernel
theorem d_Se_weigh_16 : decode b_Se_weigh 16 = .ok (.getfield 26, 3) := by decide +kernel
theorem d_Se_weigh_19 : decode b_Se_weigh 19 = .ok (.invokevirtual 81, 3) := by decide +kernel
theorem d_Se_weigh_22 : decode b_Se_weigh 22 = .ok (.lstore_n 1, 1) := by decide +kernel
theorem d_Se_weigh_23 : decode b_Se_weigh 23 = .ok (.aload_n 0, 1) := by decide +kernel
theorem d_Se_weigh_24 : decode b_Se_weigh 24 = .ok (.getfield 32, 3) := by decide +kernel
theorem d_Se_weigh_27 : decode b_Se_weigh 27 = .ok (.lconst 0, 1) := by decide +kernel
theorem d_Se_weigh_28 : decode b_Se_weigh 28 = .ok (.lcmp, 1) := by decide +kernel
theorem d_Se_weigh_29 : decode b_Se_weigh 29 = .ok (.ifCond .lt (12), 3) := by decide +kernel
theorem d_Se_weigh_32 : decode b_Se_weigh 32 = .ok (.lload_n 1, 1) := by decide +kernel
theorem d_Se_weigh_33 : decode b_Se_weigh 33 = .ok (.aload_n 0, 1) := by decide +kernel
theorem d_Se_weigh_34 : decode b_Se_weigh 34 = .ok (.getfield 32, 3) := by decide +kernel
theorem d_Se_weigh_37 : decode b_Se_weigh 37 = .ok (.lcmp, 1) := by decide +kernel
theorem d_Se_weigh_38 : decode b_Se_weigh 38 = .ok (.ifCond .ge (39), 3) := by decide +kernel
theorem d_Se_weigh_41 : decode b_Se_weigh 41 = .ok (.aload_n 0, 1) := by decide +kernel
theorem d_Se_weigh_42 : decode b_Se_weigh 42 = .ok (.lload_n 1, 1) := by decide +kernel
theorem d_Se_weigh_43 : decode b_Se_weigh 43 = .ok (.putfield 32, 3) := by decide +kernel
theorem d_Se_weigh_46 : decode b_Se_weigh 46 = .ok (.aload_n 0, 1) := by decide +kernel
theorem d_Se_weigh_47 : decode b_Se_weigh 47 = .ok (.aload_n 0, 1) := by decide +kernel
theorem d_Se_weigh_48 : decode b_Se_weigh 48 = .ok (.getfield 22, 3) := by decide +kernel
theorem d_Se_weigh_51 : decode b_Se_weigh 51 = .ok (.getfield 59, 3) := by decide +kernel
theorem d_Se_weigh_54 : decode b_Se_weigh 54 = .ok (.putfield 85, 3) := by decide +kernel
theorem d_Se_weigh_57 : decode b_Se_weigh 57 = .ok (.aload_n 0, 1) := by decide +kernel
theorem d_Se_weigh_58 : decode b_Se_weigh 58 = .ok (.getfield 9, 3) := by decide +kernel
theorem d_Se_weigh_61 : decode b_Se_weigh 61 = .ok (.iconst 0, 1) := by decide +kernel
theorem d_Se_weigh_62 : decode b_Se_weigh 62 = .ok (.aload_n 0, 1) := by decide +kernel
theorem d_Se_weigh_63 : decode b_Se_weigh 63 = .ok (.getfield 15, 3) := by decide +kernel
theorem d_Se_weigh_66 : decode b_Se_weigh 66 = .ok (.iconst 0, 1) := by decide +kernel
theorem d_Se_weigh_67 : decode b_Se_weigh 67 = .ok (.aload_n 0, 1) := by decide +kernel
theorem d_Se_weigh_68 : decode b_Se_weigh 68 = .ok (.getfield 22, 3) := by decide +kernel
theorem d_Se_weigh_71 : decode b_Se_weigh 71 = .ok (.getfield 59, 3) := by decide +kernel
theorem d_Se_weigh_74 : decode b_Se_weigh 74 = .ok (.invokestatic 88, 3) := by decide +kernel
theorem d_Se_weigh_77 : decode b_Se_weigh 77 = .ok (.return_, 1) := by decide +kernel
set_option maxHeartbeats 4000000 in
set_option maxRecDepth 100000 in
theorem c_Se_weigh (l : Launch) (dC : Nat → ClassId) (dI : Nat → Nat → Nat) (cI cJ cG cZ : ClassId) (a : Nat → Nat) (sz : Nat) (fi : Nat → Int32) (fl : Nat → Int64) (ai : Nat → Nat → Int32) (al : Nat → Nat → Int64) (K : (Nat → Int32) → (Nat → Int64) → (Nat → Nat → Int32) → (Nat → Nat → Int64) → Prop) (hw : Se_weigh_w fi fl ai al K) : Met l y_Se_weigh ws_Se_weigh ({ frames := 5, cells := 0, slots := 0, locals := 116 }) (va_Pc [.ref (a 58)] (zw_Bw (dC, dI) vwCl [(cI, .int), (cJ, .long), (cG, .array .int), (cZ, .boolean)] (cw cI cJ cG cZ a fi fl ai al) sz)) (va_Qv (fun (u : zw_Z) => (zw_k_fi_fl_ai_alv  K) u.1 u.2.1 u.2.2.1 u.2.2.2) (fun u t => zw_E (dC, dI) vwCl [(cI, .int), (cJ, .long), (cG, .array .int), (cZ, .boolean)] (va_A (cw cI cJ cG cZ a fi fl ai al) sz) (cw cI cJ cG cZ a u.1 u.2.1 u.2.2.1 u.2.2.2) t) (va_A (cw cI cJ cG cZ a fi fl ai al) sz)) 0 0 (va_A (cw cI cJ cG cZ a fi fl ai al) sz) := by
  refine Met.ofW (cc := b_Se_weigh) (maxL := 3) (ret := (Option.none : Option FieldType)) (by decide) rfl ?_
  intro p e s m args below meth c s₁ B hml hv
  obtain ⟨rfl, hsz, hP, hK, hD0, hN⟩ := hv
  have hx := B.exec
  have hb := B.bytes
  have hr := B.returns
  have hts := atoms_spec (ws := ws_Se_weigh) B.pre
  have ht : ∀ w ∈ zw_tbl, w.before _ s = true := fun w h => hts w (List.mem_cons_of_mem _ h)
  have hown : s.vm.findClass R_Se = some m.cls := findClass_of_methodNamed B.named
  have hlocks := B.notSynchronized
  subst hsz
  have hD := hD0.self (sz := s.heap.size)
  generalize hAe : va_A (cw cI cJ cG cZ a fi fl ai al) s.heap.size = A at hD ⊢
  have hA : ∀ q : Nat, s.heap.size ≤ q → A q := fun q h => by rw [← hAe]; exact Or.inr h
  have hS : va_S A s.heap s.heap [] := va_S.rf
  have hl := lv_entry ([.ref (a 58)] : List Value) (n := 3) (Nat.le_of_ble_eq_true rfl)
  rw [lg_entry_eq]
  generalize (lg_sl ([.ref (a 58)] : List Value) ++ List.replicate (3 - (lg_sl ([.ref (a 58)] : List Value)).length) Slot.unset).toArray = ls at hl ⊢
  have hl : lv_has ls 3 [(0, .ref (a 58))] := hl
  unfold Se_weigh_w at hw
  obtain ⟨H, hH⟩ : ∃ H, H = s.heap := ⟨_, rfl⟩
  obtain ⟨locs, hlo⟩ : ∃ q : List Loc, q = [] := ⟨_, rfl⟩
  have hP : va_P (dC, dI) vwCl (cw cI cJ cG cZ a fi fl ai al) H := by rw [hH]; exact hP
  have hS : va_S A s.heap H locs := by rw [hH, hlo]; exact hS
  have key : W p l e (headSpec ws_Se_weigh ({ frames := 5, cells := 0, slots := 0, locals := 116 })).room s m ([.ref (a 58)] : List Value).toArray below meth c H locs 0 0 (MQ below (va_Qv (fun (u : zw_Z) => (zw_k_fi_fl_ai_alv  K) u.1 u.2.1 u.2.2.1 u.2.2.2) (fun u t => zw_E (dC, dI) vwCl [(cI, .int), (cJ, .long), (cG, .array .int), (cZ, .boolean)] A (cw cI cJ cG cZ a u.1 u.2.1 u.2.2.1 u.2.2.2) t) A) ([.ref (a 58)] : List Value).toArray s 0 0 A) (F0 m 0 ls []) := by
    refine lv_aload_n hx hb d_Se_weigh_0 rfl (lv_at hl 0 rfl) ?_
    refine va_get (D := (dC, dI)) (ci := 5) (v := .ref (a 40)) (C := R_Se) (T := T_Se) (N := 7) hx hb ht in_Se hown hK hP 58 rfl rfl 2 (by decide) (ht _ kw_220) (fun _ h9 => h9) rfl d_Se_weigh_1 ?_
    refine lv_aload_n hx hb d_Se_weigh_4 rfl (lv_at hl 0 rfl) ?_
    refine va_get (D := (dC, dI)) (ci := 5) (v := .ref (a 59)) (C := R_Se) (T := T_Se) (N := 7) hx hb ht in_Se hown hK hP 58 rfl rfl 3 (by decide) (ht _ kw_221) (fun _ h9 => h9) rfl d_Se_weigh_5 ?_
    refine zw_ci (va_runV (As := [.ref (a 59)]) (rest := []) ⟨hx, hb, hml, hown, hts⟩ (c_Wa_go l dC dI cI cJ cG cZ a H.size fi fl ai al 59 _ (fun _ _ _ _ => rfl) hw) (cwV 1 hts (zw_goodV kw_582 kw_441 kw_442 kw_7 kw_443) rfl rfl rfl hd_Wa_go ⟨Nat.le_of_ble_eq_true rfl, Nat.le_of_ble_eq_true rfl⟩) (zw_preVw (ci := 6) (q0 := 40) hK hN hP hD rfl rfl) rfl rfl hl.1 rfl (lv_room (Nat.le_of_ble_eq_true rfl)) d_Se_weigh_8 ⟨Nat.le_of_ble_eq_true rfl, Nat.le_of_ble_eq_true rfl⟩) hD hS hA (fun r8 fi_8 fl_8 ai_8 al_8 H locs hw hP hD hS => ?_)
    obtain ⟨rfl, hw⟩ := hw
    refine lv_if_ne (tgt := 15) hx hb d_Se_weigh_11 (by decide) (fun c11 => ?_) (fun c11 => ?_)
    · have hw := zw_ite_f c11 hw
      refine lv_aload_n hx hb d_Se_weigh_15 rfl (lv_at hl 0 rfl) ?_
      refine va_get (D := (dC, dI)) (ci := 5) (v := .ref (a 40)) (C := R_Se) (T := T_Se) (N := 7) hx hb ht in_Se hown hK hP 58 rfl rfl 2 (by decide) (ht _ kw_220) (fun _ h9 => h9) rfl d_Se_weigh_16 ?_
      refine vp_callSl (va_Run.run (va_runV (As := []) (rest := []) ⟨hx, hb, hml, hown, hts⟩ (c_Wa_greatestSize l dC dI cI cJ cG cZ a fi_8 fl ai_8 al_8 _ hw) (cwV 0 hts (zw_goodV kw_583 kw_584 kw_585 kw_7 kw_586) rfl rfl rfl hd_Wa_greatestSize ⟨Nat.le_of_ble_eq_true rfl, Nat.le_of_ble_eq_true rfl⟩) (zw_preV (ci := 6) (q0 := 40) hK hN hP rfl rfl) rfl rfl hl.1 rfl (lv_room (Nat.le_of_ble_eq_true rfl)) d_Se_weigh_19 ⟨Nat.le_of_ble_eq_true rfl, Nat.le_of_ble_eq_true rfl⟩)) (fun r19 hw => ?_)
      refine lv_lstore_n (lv' := [(1, .long r19), (0, .ref (a 58))]) hx hb d_Se_weigh_22 rfl hl (by decide) rfl (fun ls hl => ?_)
      refine lv_aload_n hx hb d_Se_weigh_23 rfl (lv_at hl 1 rfl) ?_
      refine va_get (D := (dC, dI)) (ci := 5) (v := .long (fl 0)) (C := R_Se) (T := T_Se) (N := 7) hx hb ht in_Se hown hK hP 58 rfl rfl 6 (by decide) (ht _ kw_226) (fun _ h9 => h9) rfl d_Se_weigh_24 ?_
      refine lv_lconst (v := (0 : Int64)) hx hb d_Se_weigh_27 (by decide) ?_
      refine zw_jn0_i (P := ∀ (H : Heap) (locs : List Loc) (ls : Array Slot), va_P (dC, dI) vwCl (cw cI cJ cG cZ a fi_8 fl ai_8 al_8) H → va_D A (cw cI cJ cG cZ a fi_8 fl ai_8 al_8) → va_S A s.heap H locs → lv_has ls 3 [(0, .ref (a 58)), (1, .long r19)] → W p l e (headSpec ws_Se_weigh ({ frames := 5, cells := 0, slots := 0, locals := 116 })).room s m ([.ref (a 58)] : List Value).toArray below meth c H locs 0 0 (MQ below (va_Qv (fun (u : zw_Z) => (zw_k_fi_fl_ai_alv  K) u.1 u.2.1 u.2.2.1 u.2.2.2) (fun u t => zw_E (dC, dI) vwCl [(cI, .int), (cJ, .long), (cG, .array .int), (cZ, .boolean)] A (cw cI cJ cG cZ a u.1 u.2.1 u.2.2.1 u.2.2.2) t) A) ([.ref (a 58)] : List Value).toArray s 0 0 A) (F0 m 41 ls [])) hw (fun hw H locs ls hP hD hS hl => ?_) (fun J41 hj41 hw => ?_)
      · refine lv_aload_n hx hb d_Se_weigh_41 rfl (lv_at hl 0 rfl) ?_
        refine lv_lload_n hx hb d_Se_weigh_42 rfl (lv_at hl 1 rfl) ?_
        refine va_put (D := (dC, dI)) (ci := 5) (v := .long r19) (ty := .long) (C := R_Se) (T := T_Se) (N := 7) hx hb ht in_Se t_Se t_Se_ok n_Se hown hK hP hD hS 58 rfl rfl 6 (by decide) (ht _ kw_226) (fun _ h9 => h9) rfl (by decide +kernel) rfl rfl (Nat.le_of_ble_eq_true rfl) d_Se_weigh_43 (fun H locs hP hD hS => ?_)
        have hP := cwpfl_0 hP
        have hD := cwdfl_0 hD
        obtain ⟨fl_43, efl_43⟩ : ∃ z, z = va_up fl 0 r19 := ⟨_, rfl⟩
        rw [← efl_43] at hP hD
        have hw := zw_nm_x efl_43 hw
        refine lv_aload_n hx hb d_Se_weigh_46 rfl (lv_at hl 0 rfl) ?_
        refine lv_aload_n hx hb d_Se_weigh_47 rfl (lv_at hl 0 rfl) ?_
        refine va_get (D := (dC, dI)) (ci := 5) (v := .ref (a 4)) (C := R_Se) (T := T_Se) (N := 7) hx hb ht in_Se hown hK hP 58 rfl rfl 1 (by decide) (ht _ kw_219) (fun _ h9 => h9) rfl d_Se_weigh_48 ?_
        refine va_get (D := (dC, dI)) (ci := 3) (v := .int (fi_8 4)) (C := R_Pl) (T := T_Pl) (N := 11) hx hb ht in_Pl hown hK hP 4 rfl rfl 9 (by decide) (ht _ kw_66) (fun _ h9 => h9) rfl d_Se_weigh_51 ?_
        refine va_put (D := (dC, dI)) (ci := 5) (v := .int (fi_8 4)) (ty := .int) (C := R_Se) (T := T_Se) (N := 7) hx hb ht in_Se t_Se t_Se_ok n_Se hown hK hP hD hS 58 rfl rfl 5 (by decide) (ht _ kw_224) (fun _ h9 => h9) rfl (by decide +kernel) rfl rfl (Nat.le_of_ble_eq_true rfl) d_Se_weigh_54 (fun H locs hP hD hS => ?_)
        have hP := cwpfi_11 hP
        have hD := cwdfi_11 hD
        obtain ⟨fi_54, efi_54⟩ : ∃ z, z = va_up fi_8 11 (fi_8 4) := ⟨_, rfl⟩
        rw [← efi_54] at hP hD
        have hw := zw_nm_x efi_54 hw
        refine lv_aload_n hx hb d_Se_weigh_57 rfl (lv_at hl 0 rfl) ?_
        refine va_get (D := (dC, dI)) (ci := 5) (v := .ref (a 59)) (C := R_Se) (T := T_Se) (N := 7) hx hb ht in_Se hown hK hP 58 rfl rfl 3 (by decide) (ht _ kw_221) (fun _ h9 => h9) rfl d_Se_weigh_58 ?_
        refine lv_iconst (v := (0 : Int32)) hx hb d_Se_weigh_61 (by decide) ?_
        refine lv_aload_n hx hb d_Se_weigh_62 rfl (lv_at hl 0 rfl) ?_
        refine va_get (D := (dC, dI)) (ci := 5) (v := .ref (a 60)) (C := R_Se) (T := T_Se) (N := 7) hx hb ht in_Se hown hK hP 58 rfl rfl 4 (by decide) (ht _ kw_222) (fun _ h9 => h9) rfl d_Se_weigh_63 ?_
        refine lv_iconst (v := (0 : Int32)) hx hb d_Se_weigh_66 (by decide) ?_
        refine lv_aload_n hx hb d_Se_weigh_67 rfl (lv_at hl 0 rfl) ?_
        refine va_get (D := (dC, dI)) (ci := 5) (v := .ref (a 4)) (C := R_Se) (T := T_Se) (N := 7) hx hb ht in_Se hown hK hP 58 rfl rfl 1 (by decide) (ht _ kw_219) (fun _ h9 => h9) rfl d_Se_weigh_68 ?_
        refine va_get (D := (dC, dI)) (ci := 3) (v := .int (fi_54 4)) (C := R_Pl) (T := T_Pl) (N := 11) hx hb ht in_Pl hown hK hP 4 rfl rfl 9 (by decide) (ht _ kw_66) (fun _ h9 => h9) rfl d_Se_weigh_71 ?_
        obtain ⟨h74a, h74b, h74c, hw⟩ := hw
        refine va_copyi (f := ai_8 59) (g := ai_8 60) (ty := .int) hx hb (hml.trans hl.1.symm) hown (ht _ kw_591) (ht _ kw_593) (ht _ kw_592) (ht _ kw_11) hK hP hD hS 59 60 0 0 rfl rfl rfl rfl rfl (by decide) (by decide) h74a h74b h74c (fun _ _ => rfl) (Nat.le_of_ble_eq_true rfl) (Nat.le_of_ble_eq_true rfl) d_Se_weigh_74 (fun H locs hP hD hS => ?_)
        have hP := cwpai_60 hP
        have hD := cwdai_60 hD
        obtain ⟨ai_74, eai_74⟩ : ∃ z, z = va_up ai_8 60 (va_cpy (ai_8 59) (ai_8 60) (0 : Int32).toNatClampNeg (0 : Int32).toNatClampNeg (fi_54 4).toNatClampNeg) := ⟨_, rfl⟩
        rw [← eai_74] at hP hD
        have hw := zw_nm_x eai_74 hw
        exact W.vret hx hb hr (fun t ht hW => ⟨⟨(fi_54, fl_43, ai_74, al_8), rfl, hw, by rw [ht]; exact hP, va_K.moved hW.alike hK, hD⟩, hS.F ht⟩) hS.2.2 d_Se_weigh_77
      · refine W.lcmp hx hb d_Se_weigh_28 ?_
        refine lv_if_lt (tgt := 41) hx hb d_Se_weigh_29 (by decide) (fun c29 => ?_) (fun c29 => ?_)
        · have hw := zw_ite_t (zw_lg_lt.mp c29) hw
          exact (hj41  hw) H locs ls hP hD hS (lv_sub hl [1, 0] rfl)
        · have hw := zw_ite_f (mt zw_lg_lt.mpr c29) hw
          refine lv_lload_n hx hb d_Se_weigh_32 rfl (lv_at hl 0 rfl) ?_
          refine lv_aload_n hx hb d_Se_weigh_33 rfl (lv_at hl 1 rfl) ?_
          refine va_get (D := (dC, dI)) (ci := 5) (v := .long (fl 0)) (C := R_Se) (T := T_Se) (N := 7) hx hb ht in_Se hown hK hP 58 rfl rfl 6 (by decide) (ht _ kw_226) (fun _ h9 => h9) rfl d_Se_weigh_34 ?_
          refine W.lcmp hx hb d_Se_weigh_37 ?_
          refine lv_if_ge (tgt := 77) hx hb d_Se_weigh_38 (by decide) (fun c38 => ?_) (fun c38 => ?_)
          · have hw := zw_ite_t (zw_lg_ge.mp c38) hw
            exact W.vret hx hb hr (fun t ht hW => ⟨⟨(fi_8, fl, ai_8, al_8), rfl, hw, by rw [ht]; exact hP, va_K.moved hW.alike hK, hD⟩, hS.F ht⟩) hS.2.2 d_Se_weigh_77
          · have hw := zw_ite_f (mt zw_lg_ge.mpr c38) hw
            exact (hj41  hw) H locs ls hP hD hS (lv_sub hl [1, 0] rfl)
    · have hw := zw_ite_t c11 hw
      exact W.vret hx hb hr (fun t ht hW => ⟨⟨(fi_8, fl, ai_8, al_8), rfl, hw, by rw [ht]; exact hP, va_K.moved hW.alike hK, hD⟩, hS.F ht⟩) hS.2.2 d_Se_weigh_14
  rw [hH, hlo] at key
  exact key
def Se_tryFrom_w : Nat → (Nat → Int32) → (Nat → Int64) → (Nat → Nat → Int32) → (Nat → Nat → Int64) → Int32 → Int32 → Int32 → ((Nat → Int32) → (Nat → Int64) → (Nat → Nat → Int32) → (Nat → Nat → Int64) → Prop) → Prop
  | 0 => fun _ _ _ _ _ _ _ _ => False
  | nR + 1 => fun fi fl ai al p0 p1 p2 K =>
    zw_jn0 (
    Se_weigh_w fi fl ai al  (fun (fi_18 : Nat → Int32) (fl_18 : Nat → Int64) (ai_18 : Nat → Nat → Int32) (al_18 : Nat → Nat → Int64) =>
    K fi_18 fl_18 ai_18 al_18)) (fun J17 =>
    if (fi 4) ≤ p0 then (
      J17)
    else (
      if p0 < (6 : Int32) then (
        zw_nm (0 : Int32) (fun (v23 : Int32) =>
        zw_lp5 (fun L25 (x25_4 : Int32) (fi25 : Nat → Int32) (fl25 : Nat → Int64) (ai25 : Nat → Nat → Int32) (al25 : Nat → Nat → Int64) =>
        if (fi25 7) ≤ x25_4 then (
          K fi25 fl25 ai25 al25)
        else (
          SS_hasBit_w (p1 &&& (p2 ^^^ (-1 : Int32))) x25_4 (fun (r44 : Int32) =>
          zw_jn4 (fun (fi85 : Nat → Int32) (fl85 : Nat → Int64) (ai85 : Nat → Nat → Int32) (al85 : Nat → Nat → Int64) =>
          zw_nm (x25_4 + (1 : Int32)) (fun (v85 : Int32) =>
          L25 v85 fi85 fl85 ai85 al85)) (fun J85 =>
          if r44 = 0 then (
            J85 fi25 fl25 ai25 al25)
          else (
            Gi_mayFollow_w fi25 fl25 ai25 al25 x25_4 p2 (fun (r57 : Int32) =>
            if r57 = 0 then (
              J85 fi25 fl25 ai25 al25)
            else (
              vp_in p0 6 ∧ (zw_nm (va_up ai25 59 (upd (ai25 59) p0.toNatClampNeg x25_4)) (fun (ai_70 : Nat → Nat → Int32) =>
              Se_tryFrom_w nR fi25 fl25 ai_70 al25 (p0 + (1 : Int32)) p1 (p2 ||| ((1 : Int32) <<< (x25_4 &&& 31))) (fun (fi_82 : Nat → Int32) (fl_82 : Nat → Int64) (ai_82 : Nat → Nat → Int32) (al_82 : Nat → Nat → Int64) =>
              J85 fi_82 fl_82 ai_82 al_82)))))))))) v23 fi fl ai al))
      else (
        J17)))
theorem d_Se_tryFrom_0 : decode b_Se_tryFrom 0 = .ok (.iload_n 1, 1) := by decide +kernel
theorem d_Se_tryFrom_1 : decode b_Se_tryFrom 1 = .ok (.aload_n 0, 1) := by decide +kernel
theorem d_Se_tryFrom_2 : decode b_Se_tryFrom 2 = .ok (.getfield 22, 3) := by decide +kernel
theorem d_Se_tryFrom_5 : decode b_Se_tryFrom 5 = .ok (.getfield 59, 3) := by decide +kernel
theorem d_Se_tryFrom_8 : decode b_Se_tryFrom 8 = .ok (.if_icmp .ge (9), 3) := by decide +kernel
theorem d_Se_tryFrom_11 : decode b_Se_tryFrom 11 = .ok (.iload_n 1, 1) := by decide +kernel
theorem d_Se_tryFrom_12 : decode b_Se_tryFrom 12 = .ok (.bipush (6), 2) := by decide +kernel
theorem d_Se_tryFrom_14 : decode b_Se_tryFrom 14 = .ok (.if_icmp .lt (8), 3) := by decide +kernel
theorem d_Se_tryFrom_17 : decode b_Se_tryFrom 17 = .ok (.aload_n 0, 1) := by decide +kernel
theorem d_Se_tryFrom_18 : decode b_Se_tryFrom 18 = .ok (.invokevirtual 62, 3) := by decide +kernel
theorem d_Se_tryFrom_21 : decode b_Se_tryFrom 21 = .ok (.return_, 1) := by decide +kernel
theorem d_Se_tryFrom_22 : decode b_Se_tryFrom 22 = .ok (.iconst 0, 1) := by decide +kernel
theorem d_Se_tryFrom_23 : decode b_Se_tryFrom 23 = .ok (.istore 4, 2) := by decide +kernel
theorem d_Se_tryFrom_25 : decode b_Se_tryFrom 25 = .ok (.iload 4, 2) := by decide +kernel
theorem d_Se_tryFrom_27 : decode b_Se_tryFrom 27 = .ok (.aload_n 0, 1) := by decide +kernel
theorem d_Se_tryFrom_28 : decode b_Se_tryFrom 28 = .ok (.getfield 18, 3) := by decide +kernel
theorem d_Se_tryFrom_31 : decode b_Se_tryFrom 31 = .ok (.getfield 65, 3) := by decide +kernel
theorem d_Se_tryFrom_34 : decode b_Se_tryFrom 34 = .ok (.if_icmp .ge (57), 3) := by decide +kernel
theorem d_Se_tryFrom_37 : decode b_Se_tryFrom 37 = .ok (.iload_n 2, 1) := by decide +kernel
theorem d_Se_tryFrom_38 : decode b_Se_tryFrom 38 = .ok (.iload_n 3, 1) := by decide +kernel
theorem d_Se_tryFrom_39 : decode b_Se_tryFrom 39 = .ok (.iconst (-1), 1) := by decide +kernel
theorem d_Se_tryFrom_40 : decode b_Se_tryFrom 40 = .ok (.ixor, 1) := by decide +kernel
theorem d_Se_tryFrom_41 : decode b_Se_tryFrom 41 = .ok (.iand, 1) := by decide +kernel
theorem d_Se_tryFrom_42 : decode b_Se_tryFrom 42 = .ok (.iload 4, 2) := by decide +kernel
theorem d_Se_tryFrom_44 : decode b_Se_tryFrom 44 = .ok (.invokestatic 70, 3) := by decide +kernel
theorem d_Se_tryFrom_47 : decode b_Se_tryFrom 47 = .ok (.ifCond .eq (38), 3) := by decide +kernel
theorem d_Se_tryFrom_50 : decode b_Se_tryFrom 50 = .ok (.aload_n 0, 1) := by decide +kernel
theorem d_Se_tryFrom_51 : decode b_Se_tryFrom 51 = .ok (.getfield 18, 3) := by decide +kernel
theorem d_Se_tryFrom_54 : decode b_Se_tryFrom 54 = .ok (.iload 4, 2) := by decide +kernel
theorem d_Se_tryFrom_56 : decode b_Se_tryFrom 56 = .ok (.iload_n 3, 1) := by decide +kernel
theorem d_Se_tryFrom_57 : decode b_Se_tryFrom 57 = .ok (.invokevirtual 74, 3) := by decide +kernel
theorem d_Se_tryFrom_60 : decode b_Se_tryFrom 60 = .ok (.ifCond .eq (25), 3) := by decide +kernel
theorem d_Se_tryFrom_63 : decode b_Se_tryFrom 63 = .ok (.aload_n 0, 1) := by decide +kernel
theorem d_Se_tryFrom_64 : decode b_Se_tryFrom 64 = .ok (.getfield 9, 3) := by decide +kernel
theorem d_Se_tryFrom_67 : decode b_Se_tryFrom 67 = .ok (.iload_n 1, 1) := by decide +kernel
theorem d_Se_tryFrom_68 : decode b_Se_tryFrom 68 = .ok (.iload 4, 2) := by decide +kernel
theorem d_Se_tryFrom_70 : decode b_Se_tryFrom 70 = .ok (.iastore, 1) := by decide +kernel
theorem d_Se_tryFrom_71 : decode b_Se_tryFrom 71 = .ok (.aload_n 0, 1) := by decide +kernel
theorem d_Se_tryFrom_72 : decode b_Se_tryFrom 72 = .ok (.iload_n 1, 1) := by decide +kernel
theorem d_Se_tryFrom_73 : decode b_Se_tryFrom 73 = .ok (.iconst 1, 1) := by decide +kernel
theorem d_Se_tryFrom_74 : decode b_Se_tryFrom 74 = .ok (.iadd, 1) := by decide +kernel
theorem d_Se_tryFrom_75 : decode b_Se_tryFrom 75 = .ok (.iload_n 2, 1) := by decide +kernel
theorem d_Se_tryFrom_76 : decode b_Se_tryFrom 76 = .ok (.iload_n 3, 1) := by decide +kernel
theorem d_Se_tryFrom_77 : decode b_Se_tryFrom 77 = .ok (.iconst 1, 1) := by decide +kernel
theorem d_Se_tryFrom_78 : decode b_Se_tryFrom 78 = .ok (.iload 4, 2) := by decide +kernel
theorem d_Se_tryFrom_80 : decode b_Se_tryFrom 80 = .ok (.ishl, 1) := by decide +kernel
theorem d_Se_tryFrom_81 : decode b_Se_tryFrom 81 = .ok (.ior, 1) := by decide +kernel
theorem d_Se_tryFrom_82 : decode b_Se_tryFrom 82 = .ok (.invokevirtual 55, 3) := by decide +kernel
theorem d_Se_tryFrom_85 : decode b_Se_tryFrom 85 = .ok (.iinc 4 (1), 3) := by decide +kernel
theorem d_Se_tryFrom_88 : decode b_Se_tryFrom 88 = .ok (.goto (-63), 3) := by decide +kernel
theorem d_Se_tryFrom_91 : decode b_Se_tryFrom 91 = .ok (.return_, 1) := by decide +kernel
set_option maxHeartbeats 4000000 in
set_option maxRecDepth 100000 in
theorem c_Se_tryFrom : ∀ (nR : Nat) (l : Launch) (dC : Nat → ClassId) (dI : Nat → Nat → Nat) (cI cJ cG cZ : ClassId) (a : Nat → Nat) (sz : Nat) (fi : Nat → Int32) (fl : Nat → Int64) (ai : Nat → Nat → Int32) (al : Nat → Nat → Int64) (p0 : Int32) (p1 : Int32) (p2 : Int32) (K : (Nat → Int32) → (Nat → Int64) → (Nat → Nat → Int32) → (Nat → Nat → Int64) → Prop) (hw : Se_tryFrom_w nR fi fl ai al p0 p1 p2 K), Met l y_Se_tryFrom ws_Se_tryFrom (zw_recR nR) (va_Pc [.ref (a 58), .int p0, .int p1, .int p2] (zw_Bw (dC, dI) vwCl [(cI, .int), (cJ, .long), (cG, .array .int), (cZ, .boolean)] (cw cI cJ cG cZ a fi fl ai al) sz)) (va_Qv (fun (u : zw_Z) => (zw_k_fi_fl_ai_alv  K) u.1 u.2.1 u.2.2.1 u.2.2.2) (fun u t => zw_E (dC, dI) vwCl [(cI, .int), (cJ, .long), (cG, .array .int), (cZ, .boolean)] (va_A (cw cI cJ cG cZ a fi fl ai al) sz) (cw cI cJ cG cZ a u.1 u.2.1 u.2.2.1 u.2.2.2) t) (va_A (cw cI cJ cG cZ a fi fl ai al) sz)) 0 0 (va_A (cw cI cJ cG cZ a fi fl ai al) sz) := by
  intro nR
  induction nR with
  | zero => intro l dC dI cI cJ cG cZ a sz fi fl ai al p0 p1 p2 K hw; exact hw.elim
  | succ nR ihR0 =>
  intro l dC dI cI cJ cG cZ a sz fi fl ai al p0 p1 p2 K hw
  have ihR := ihR0 l
  refine Met.ofW (cc := b_Se_tryFrom) (maxL := 5) (ret := (Option.none : Option FieldType)) (by decide) rfl ?_
  intro p e s m args below meth c s₁ B hml hv
  obtain ⟨rfl, hsz, hP, hK, hD0, hN⟩ := hv
  have hx := B.exec
  have hb := B.bytes
  have hr := B.returns
  have hts := atoms_spec (ws := ws_Se_tryFrom) B.pre
  have ht : ∀ w ∈ zw_tbl, w.before _ s = true := fun w h => hts w (List.mem_cons_of_mem _ h)
  have hown : s.vm.findClass R_Se = some m.cls := findClass_of_methodNamed B.named
  have hlocks := B.notSynchronized
  subst hsz
  have hD := hD0.self (sz := s.heap.size)
  generalize hAe : va_A (cw cI cJ cG cZ a fi fl ai al) s.heap.size = A at hD ⊢
  have hA : ∀ q : Nat, s.heap.size ≤ q → A q := fun q h => by rw [← hAe]; exact Or.inr h
  have hS : va_S A s.heap s.heap [] := va_S.rf
  have hl := lv_entry ([.ref (a 58), .int p0, .int p1, .int p2] : List Value) (n := 5) (Nat.le_of_ble_eq_true rfl)
  rw [lg_entry_eq]
  generalize (lg_sl ([.ref (a 58), .int p0, .int p1, .int p2] : List Value) ++ List.replicate (5 - (lg_sl ([.ref (a 58), .int p0, .int p1, .int p2] : List Value)).length) Slot.unset).toArray = ls at hl ⊢
  have hl : lv_has ls 5 [(0, .ref (a 58)), (1, .int p0), (2, .int p1), (3, .int p2)] := hl
  unfold Se_tryFrom_w at hw
  obtain ⟨H, hH⟩ : ∃ H, H = s.heap := ⟨_, rfl⟩
  obtain ⟨locs, hlo⟩ : ∃ q : List Loc, q = [] := ⟨_, rfl⟩
  have hP : va_P (dC, dI) vwCl (cw cI cJ cG cZ a fi fl ai al) H := by rw [hH]; exact hP
  have hS : va_S A s.heap H locs := by rw [hH, hlo]; exact hS
  have key : W p l e (headSpec ws_Se_tryFrom (zw_recR (nR + 1))).room s m ([.ref (a 58), .int p0, .int p1, .int p2] : List Value).toArray below meth c H locs 0 0 (MQ below (va_Qv (fun (u : zw_Z) => (zw_k_fi_fl_ai_alv  K) u.1 u.2.1 u.2.2.1 u.2.2.2) (fun u t => zw_E (dC, dI) vwCl [(cI, .int), (cJ, .long), (cG, .array .int), (cZ, .boolean)] A (cw cI cJ cG cZ a u.1 u.2.1 u.2.2.1 u.2.2.2) t) A) ([.ref (a 58), .int p0, .int p1, .int p2] : List Value).toArray s 0 0 A) (F0 m 0 ls []) := by
    refine lv_iload_n hx hb d_Se_tryFrom_0 rfl (lv_at hl 1 rfl) ?_
    refine lv_aload_n hx hb d_Se_tryFrom_1 rfl (lv_at hl 0 rfl) ?_
    refine va_get (D := (dC, dI)) (ci := 5) (v := .ref (a 4)) (C := R_Se) (T := T_Se) (N := 7) hx hb ht in_Se hown hK hP 58 rfl rfl 1 (by decide) (ht _ kw_219) (fun _ h9 => h9) rfl d_Se_tryFrom_2 ?_
    refine va_get (D := (dC, dI)) (ci := 3) (v := .int (fi 4)) (C := R_Pl) (T := T_Pl) (N := 11) hx hb ht in_Pl hown hK hP 4 rfl rfl 9 (by decide) (ht _ kw_66) (fun _ h9 => h9) rfl d_Se_tryFrom_5 ?_
    refine zw_jn0_i (P := ∀ (H : Heap) (locs : List Loc) (ls : Array Slot), va_P (dC, dI) vwCl (cw cI cJ cG cZ a fi fl ai al) H → va_D A (cw cI cJ cG cZ a fi fl ai al) → va_S A s.heap H locs → lv_has ls 5 [(0, .ref (a 58))] → W p l e (headSpec ws_Se_tryFrom (zw_recR (nR + 1))).room s m ([.ref (a 58), .int p0, .int p1, .int p2] : List Value).toArray below meth c H locs 0 0 (MQ below (va_Qv (fun (u : zw_Z) => (zw_k_fi_fl_ai_alv  K) u.1 u.2.1 u.2.2.1 u.2.2.2) (fun u t => zw_E (dC, dI) vwCl [(cI, .int), (cJ, .long), (cG, .array .int), (cZ, .boolean)] A (cw cI cJ cG cZ a u.1 u.2.1 u.2.2.1 u.2.2.2) t) A) ([.ref (a 58), .int p0, .int p1, .int p2] : List Value).toArray s 0 0 A) (F0 m 17 ls [])) hw (fun hw H locs ls hP hD hS hl => ?_) (fun J17 hj17 hw => ?_)
    · refine lv_aload_n hx hb d_Se_tryFrom_17 rfl (lv_at hl 0 rfl) ?_
      refine zw_cv (va_runV (As := []) (rest := []) ⟨hx, hb, hml, hown, hts⟩ (c_Se_weigh l dC dI cI cJ cG cZ a H.size fi fl ai al _ hw) (cwV 0 hts (zw_goodV kw_578 kw_580 kw_s16 kw_8 kw_581) rfl rfl rfl hd_Se_weigh ⟨zw_geF (by decide) nR, zw_geL (by decide) nR⟩) (zw_preVw (ci := 5) (q0 := 58) hK hN hP hD rfl rfl) rfl rfl hl.1 rfl (lv_room (Nat.le_of_ble_eq_true rfl)) d_Se_tryFrom_18 ⟨Nat.le_refl _, Nat.le_refl _⟩) hD hS hA (fun fi_18 fl_18 ai_18 al_18 H locs hw hP hD hS => ?_)
      have hw := hw
      exact W.vret hx hb hr (fun t ht hW => ⟨⟨(fi_18, fl_18, ai_18, al_18), rfl, hw, by rw [ht]; exact hP, va_K.moved hW.alike hK, hD⟩, hS.F ht⟩) hS.2.2 d_Se_tryFrom_21
    · refine lv_icmp_ge (tgt := 17) hx hb d_Se_tryFrom_8 (by decide) (fun c8 => ?_) (fun c8 => ?_)
      · have hw := zw_ite_t c8 hw
        exact (hj17  hw) H locs ls hP hD hS (lv_sub hl [0] rfl)
      · have hw := zw_ite_f c8 hw
        refine lv_iload_n hx hb d_Se_tryFrom_11 rfl (lv_at hl 1 rfl) ?_
        refine lv_bipush (v := (6 : Int32)) hx hb d_Se_tryFrom_12 (by decide) ?_
        refine lv_icmp_lt (tgt := 22) hx hb d_Se_tryFrom_14 (by decide) (fun c14 => ?_) (fun c14 => ?_)
        · have hw := zw_ite_t c14 hw
          refine lv_iconst (v := (0 : Int32)) hx hb d_Se_tryFrom_22 (by decide) ?_
          refine lv_topi (fun v23 ev23 => ?_)
          have hw := zw_nm_x ev23 hw
          refine lv_istore (lv' := [(4, .int v23), (0, .ref (a 58)), (1, .int p0), (2, .int p1), (3, .int p2)]) hx hb d_Se_tryFrom_23 hl (by decide) rfl (fun ls hl => ?_)
          refine (zw_lp5_i (P := fun (x25_4 : Int32) (fi25 : Nat → Int32) (fl25 : Nat → Int64) (ai25 : Nat → Nat → Int32) (al25 : Nat → Nat → Int64) => ∀ (H : Heap) (locs : List Loc) (ls : Array Slot), va_P (dC, dI) vwCl (cw cI cJ cG cZ a fi25 fl25 ai25 al25) H → va_D A (cw cI cJ cG cZ a fi25 fl25 ai25 al25) → va_S A s.heap H locs → lv_has ls 5 [(0, .ref (a 58)), (1, .int p0), (2, .int p1), (3, .int p2), (4, .int x25_4)] → W p l e (headSpec ws_Se_tryFrom (zw_recR (nR + 1))).room s m ([.ref (a 58), .int p0, .int p1, .int p2] : List Value).toArray below meth c H locs 0 0 (MQ below (va_Qv (fun (u : zw_Z) => (zw_k_fi_fl_ai_alv  K) u.1 u.2.1 u.2.2.1 u.2.2.2) (fun u t => zw_E (dC, dI) vwCl [(cI, .int), (cJ, .long), (cG, .array .int), (cZ, .boolean)] A (cw cI cJ cG cZ a u.1 u.2.1 u.2.2.1 u.2.2.2) t) A) ([.ref (a 58), .int p0, .int p1, .int p2] : List Value).toArray s 0 0 A) (F0 m 25 ls [])) hw (fun L25 x25_4 fi25 fl25 ai25 al25 ih25 hw H locs ls hP hD hS hl => ?_)) H locs ls hP hD hS (lv_sub hl [1, 2, 3, 4, 0] rfl)
          refine lv_iload hx hb d_Se_tryFrom_25 (lv_at hl 4 rfl) ?_
          refine lv_aload_n hx hb d_Se_tryFrom_27 rfl (lv_at hl 0 rfl) ?_
          refine va_get (D := (dC, dI)) (ci := 5) (v := .ref (a 19)) (C := R_Se) (T := T_Se) (N := 7) hx hb ht in_Se hown hK hP 58 rfl rfl 0 (by decide) (ht _ kw_218) (fun _ h9 => h9) rfl d_Se_tryFrom_28 ?_
          refine va_get (D := (dC, dI)) (ci := 2) (v := .int (fi25 7)) (C := R_Gi) (T := T_Gi) (N := 7) hx hb ht in_Gi hown hK hP 19 rfl rfl 0 (by decide) (ht _ kw_135) (fun _ h9 => h9) rfl d_Se_tryFrom_31 ?_
          refine lv_icmp_ge (tgt := 91) hx hb d_Se_tryFrom_34 (by decide) (fun c34 => ?_) (fun c34 => ?_)
          · have hw := zw_ite_t c34 hw
            exact W.vret hx hb hr (fun t ht hW => ⟨⟨(fi25, fl25, ai25, al25), rfl, hw, by rw [ht]; exact hP, va_K.moved hW.alike hK, hD⟩, hS.F ht⟩) hS.2.2 d_Se_tryFrom_91
          · have hw := zw_ite_f c34 hw
            refine lv_iload_n hx hb d_Se_tryFrom_37 rfl (lv_at hl 2 rfl) ?_
            refine lv_iload_n hx hb d_Se_tryFrom_38 rfl (lv_at hl 3 rfl) ?_
            refine lv_iconst (v := (-1 : Int32)) hx hb d_Se_tryFrom_39 (by decide) ?_
            refine lv_ixor hx hb d_Se_tryFrom_40 ?_
            refine lv_iand hx hb d_Se_tryFrom_41 ?_
            refine lv_iload hx hb d_Se_tryFrom_42 (lv_at hl 4 rfl) ?_
            refine vp_callSi (va_Run.run (va_runSN (As := [.int (p1 &&& (p2 ^^^ (-1 : Int32))), .int x25_4]) (rest := []) ⟨hx, hb, hml, hown, hts⟩ (c_SS_hasBit l (p1 &&& (p2 ^^^ (-1 : Int32))) x25_4 _ hw) ⟨va_cnB 2 hts (zw_goodC kw_321) rfl rfl rfl (hN _ nw_594) (ht _ kw_1) hd_SS_hasBit.2 ⟨zw_geF (by decide) nR, zw_geL (by decide) nR⟩, ht _ kw_320, trivial⟩ zw_preS0 rfl rfl hl.1 rfl (lv_room (Nat.le_of_ble_eq_true rfl)) d_Se_tryFrom_44 ⟨Nat.le_refl _, Nat.le_refl _⟩)) (fun r44 hw => ?_)
            refine zw_jn4_i (P := fun (fi85 : Nat → Int32) (fl85 : Nat → Int64) (ai85 : Nat → Nat → Int32) (al85 : Nat → Nat → Int64) => ∀ (H : Heap) (locs : List Loc) (ls : Array Slot), va_P (dC, dI) vwCl (cw cI cJ cG cZ a fi85 fl85 ai85 al85) H → va_D A (cw cI cJ cG cZ a fi85 fl85 ai85 al85) → va_S A s.heap H locs → lv_has ls 5 [(0, .ref (a 58)), (1, .int p0), (2, .int p1), (3, .int p2), (4, .int x25_4)] → W p l e (headSpec ws_Se_tryFrom (zw_recR (nR + 1))).room s m ([.ref (a 58), .int p0, .int p1, .int p2] : List Value).toArray below meth c H locs 0 0 (MQ below (va_Qv (fun (u : zw_Z) => (zw_k_fi_fl_ai_alv  K) u.1 u.2.1 u.2.2.1 u.2.2.2) (fun u t => zw_E (dC, dI) vwCl [(cI, .int), (cJ, .long), (cG, .array .int), (cZ, .boolean)] A (cw cI cJ cG cZ a u.1 u.2.1 u.2.2.1 u.2.2.2) t) A) ([.ref (a 58), .int p0, .int p1, .int p2] : List Value).toArray s 0 0 A) (F0 m 85 ls [])) hw (fun fi85 fl85 ai85 al85 hw H locs ls hP hD hS hl => ?_) (fun J85 hj85 hw => ?_)
            · obtain ⟨v85, ev85⟩ : ∃ y : Int32, y = x25_4 + (1 : Int32) := ⟨_, rfl⟩
              refine lv_iinc (v := v85) (lv' := [(4, .int v85), (0, .ref (a 58)), (1, .int p0), (2, .int p1), (3, .int p2)]) hx hb d_Se_tryFrom_85 hl (k := 4) rfl (by rw [ev85]; rfl) (by decide) rfl (fun ls hl => ?_)
              have hw := zw_nm_x ev85 hw
              refine lv_goto (tgt := 25) hx hb d_Se_tryFrom_88 (by decide) ?_
              exact (ih25 v85 fi85 fl85 ai85 al85 hw) H locs ls hP hD hS (lv_sub hl [1, 2, 3, 4, 0] rfl)
            · refine lv_if_eq (tgt := 85) hx hb d_Se_tryFrom_47 (by decide) (fun c47 => ?_) (fun c47 => ?_)
              · have hw := zw_ite_t c47 hw
                exact (hj85 fi25 fl25 ai25 al25 hw) H locs ls hP hD hS (lv_sub hl [0, 1, 2, 3, 4] rfl)
              · have hw := zw_ite_f c47 hw
                refine lv_aload_n hx hb d_Se_tryFrom_50 rfl (lv_at hl 0 rfl) ?_
                refine va_get (D := (dC, dI)) (ci := 5) (v := .ref (a 19)) (C := R_Se) (T := T_Se) (N := 7) hx hb ht in_Se hown hK hP 58 rfl rfl 0 (by decide) (ht _ kw_218) (fun _ h9 => h9) rfl d_Se_tryFrom_51 ?_
                refine lv_iload hx hb d_Se_tryFrom_54 (lv_at hl 4 rfl) ?_
                refine lv_iload_n hx hb d_Se_tryFrom_56 rfl (lv_at hl 3 rfl) ?_
                refine vp_callSi (va_Run.run (va_runV (As := [.int x25_4, .int p2]) (rest := []) ⟨hx, hb, hml, hown, hts⟩ (c_Gi_mayFollow l dC dI cI cJ cG cZ a fi25 fl25 ai25 al25 x25_4 p2 _ hw) (cwV 2 hts (zw_goodV kw_595 kw_371 kw_372 kw_5 kw_373) rfl rfl rfl hd_Gi_mayFollow ⟨zw_geF (by decide) nR, zw_geL (by decide) nR⟩) (zw_preV (ci := 2) (q0 := 19) hK hN hP rfl rfl) rfl rfl hl.1 rfl (lv_room (Nat.le_of_ble_eq_true rfl)) d_Se_tryFrom_57 ⟨Nat.le_refl _, Nat.le_refl _⟩)) (fun r57 hw => ?_)
                refine lv_if_eq (tgt := 85) hx hb d_Se_tryFrom_60 (by decide) (fun c60 => ?_) (fun c60 => ?_)
                · have hw := zw_ite_t c60 hw
                  exact (hj85 fi25 fl25 ai25 al25 hw) H locs ls hP hD hS (lv_sub hl [0, 1, 2, 3, 4] rfl)
                · have hw := zw_ite_f c60 hw
                  refine lv_aload_n hx hb d_Se_tryFrom_63 rfl (lv_at hl 0 rfl) ?_
                  refine va_get (D := (dC, dI)) (ci := 5) (v := .ref (a 59)) (C := R_Se) (T := T_Se) (N := 7) hx hb ht in_Se hown hK hP 58 rfl rfl 3 (by decide) (ht _ kw_221) (fun _ h9 => h9) rfl d_Se_tryFrom_64 ?_
                  refine lv_iload_n hx hb d_Se_tryFrom_67 rfl (lv_at hl 1 rfl) ?_
                  refine lv_iload hx hb d_Se_tryFrom_68 (lv_at hl 4 rfl) ?_
                  obtain ⟨h70, hw⟩ := hw
                  refine va_iast (f := ai25 59) hx hb hK hP hD hS 59 0 rfl rfl h70 d_Se_tryFrom_70 (fun H locs hP hD hS => ?_)
                  have hP := cwpai_59 hP
                  have hD := cwdai_59 hD
                  obtain ⟨ai_70, eai_70⟩ : ∃ z, z = va_up ai25 59 (upd (ai25 59) p0.toNatClampNeg x25_4) := ⟨_, rfl⟩
                  rw [← eai_70] at hP hD
                  have hw := zw_nm_x eai_70 hw
                  refine lv_aload_n hx hb d_Se_tryFrom_71 rfl (lv_at hl 0 rfl) ?_
                  refine lv_iload_n hx hb d_Se_tryFrom_72 rfl (lv_at hl 1 rfl) ?_
                  refine lv_iconst (v := (1 : Int32)) hx hb d_Se_tryFrom_73 (by decide) ?_
                  refine lv_iadd hx hb d_Se_tryFrom_74 ?_
                  refine lv_iload_n hx hb d_Se_tryFrom_75 rfl (lv_at hl 2 rfl) ?_
                  refine lv_iload_n hx hb d_Se_tryFrom_76 rfl (lv_at hl 3 rfl) ?_
                  refine lv_iconst (v := (1 : Int32)) hx hb d_Se_tryFrom_77 (by decide) ?_
                  refine lv_iload hx hb d_Se_tryFrom_78 (lv_at hl 4 rfl) ?_
                  refine lv_ishl hx hb d_Se_tryFrom_80 ?_
                  refine lv_ior hx hb d_Se_tryFrom_81 ?_
                  refine zw_cv (va_runV (As := [.int (p0 + (1 : Int32)), .int p1, .int (p2 ||| ((1 : Int32) <<< (x25_4 &&& 31)))]) (rest := []) ⟨hx, hb, hml, hown, hts⟩ (ihR dC dI cI cJ cG cZ a H.size fi25 fl25 ai_70 al25 (p0 + (1 : Int32)) p1 (p2 ||| ((1 : Int32) <<< (x25_4 &&& 31))) _ hw) (cwV 3 hts (zw_goodV kw_574 kw_576 kw_s15 kw_8 kw_577) rfl rfl rfl hd_Se_tryFrom ⟨zw_recF nR, zw_recL nR⟩) (zw_preVw (ci := 5) (q0 := 58) hK hN hP hD rfl rfl) rfl rfl hl.1 rfl (lv_room (Nat.le_of_ble_eq_true rfl)) d_Se_tryFrom_82 ⟨Nat.le_refl _, Nat.le_refl _⟩) hD hS hA (fun fi_82 fl_82 ai_82 al_82 H locs hw hP hD hS => ?_)
                  have hw := hw
                  exact (hj85 fi_82 fl_82 ai_82 al_82 hw) H locs ls hP hD hS (lv_sub hl [0, 1, 2, 3, 4] rfl)
        · have hw := zw_ite_f c14 hw
          exact (hj17  hw) H locs ls hP hD hS (lv_sub hl [0] rfl)
  rw [hH, hlo] at key
  exact key
def Se_leastGreatest_w (fi : Nat → Int32) (fl : Nat → Int64) (ai : Nat → Nat → Int32) (al : Nat → Nat → Int64) (K : Int64 → (Nat → Int32) → (Nat → Int64) → (Nat → Nat → Int32) → (Nat → Nat → Int64) → Prop) : Prop :=
  zw_nm (va_up fl 0 (-1 : Int64)) (fun (fl_4 : Nat → Int64) =>
  Pl_endDay_w fi fl_4 ai al  (fun (r24 : Int32) =>
  Wa_aim_w fi fl_4 ai al ((fi 2) - (1 : Int32)) r24 (fun (fi_27 : Nat → Int32) (ai_27 : Nat → Nat → Int32) =>
  Pl_partBits_w fi_27 fl_4 ai_27 al  (fun (r36 : Int32) =>
  Se_tryFrom_w 7 fi_27 fl_4 ai_27 al (0 : Int32) r36 (0 : Int32) (fun (fi_40 : Nat → Int32) (fl_40 : Nat → Int64) (ai_40 : Nat → Nat → Int32) (al_40 : Nat → Nat → Int64) =>
  K (fl_40 0) fi_40 fl_40 ai_40 al_40)))))
theorem d_Se_leastGreatest_0 : decode b_Se_leastGreatest 0 = .ok (.aload_n 0, 1) := by decide +kernel
theorem d_Se_leastGreatest_1 : decode b_Se_leastGreatest 1 = .ok (.ldc2_w 30, 3) := by decide +kernel
theorem d_Se_leastGreatest_4 : decode b_Se_leastGreatest 4 = .ok (.putfield 32, 3) := by decide +kernel
theorem d_Se_leastGreatest_7 : decode b_Se_leastGreatest 7 = .ok (.aload_n 0, 1) := by decide +kernel
theorem d_Se_leastGreatest_8 : decode b_Se_leastGreatest 8 = .ok (.getfield 26, 3) := by decide +kernel
theorem d_Se_leastGreatest_11 : decode b_Se_leastGreatest 11 = .ok (.aload_n 0, 1) := by decide +kernel
theorem d_Se_leastGreatest_12 : decode b_Se_leastGreatest 12 = .ok (.getfield 22, 3) := by decide +kernel
theorem d_Se_leastGreatest_15 : decode b_Se_leastGreatest 15 = .ok (.getfield 36, 3) := by decide +kernel
theorem d_Se_leastGreatest_18 : decode b_Se_leastGreatest 18 = .ok (.iconst 1, 1) := by decide +kernel
theorem d_Se_leastGreatest_19 : decode b_Se_leastGreatest 19 = .ok (.isub, 1) := by decide +kernel
theorem d_Se_leastGreatest_20 : decode b_Se_leastGreatest 20 = .ok (.aload_n 0, 1) := by decide +kernel
theorem d_Se_leastGreatest_21 : decode b_Se_leastGreatest 21 = .ok (.getfield 22, 3) := by decide +kernel
theorem d_Se_leastGreatest_24 : decode b_Se_leastGreatest 24 = .ok (.invokevirtual 42, 3) := by decide +kernel
theorem d_Se_leastGreatest_27 : decode b_Se_leastGreatest 27 = .ok (.invokevirtual 46, 3) := by decide +kernel
theorem d_Se_leastGreatest_30 : decode b_Se_leastGreatest 30 = .ok (.aload_n 0, 1) := by decide +kernel
theorem d_Se_leastGreatest_31 : decode b_Se_leastGreatest 31 = .ok (.iconst 0, 1) := by decide +kernel
theorem d_Se_leastGreatest_32 : decode b_Se_leastGreatest 32 = .ok (.aload_n 0, 1) := by decide +kernel
theorem d_Se_leastGreatest_33 : decode b_Se_leastGreatest 33 = .ok (.getfield 22, 3) := by decide +kernel
theorem d_Se_leastGreatest_36 : decode b_Se_leastGreatest 36 = .ok (.invokevirtual 52, 3) := by decide +kernel
theorem d_Se_leastGreatest_39 : decode b_Se_leastGreatest 39 = .ok (.iconst 0, 1) := by decide +kernel
theorem d_Se_leastGreatest_40 : decode b_Se_leastGreatest 40 = .ok (.invokevirtual 55, 3) := by decide +kernel
theorem d_Se_leastGreatest_43 : decode b_Se_leastGreatest 43 = .ok (.aload_n 0, 1) := by decide +kernel
theorem d_Se_leastGreatest_44 : decode b_Se_leastGreatest 44 = .ok (.getfield 32, 3) := by decide +kernel
theorem d_Se_leastGreatest_47 : decode b_Se_leastGreatest 47 = .ok (.lreturn, 1) := by decide +kernel
set_option maxHeartbeats 4000000 in
set_option maxRecDepth 100000 in
theorem c_Se_leastGreatest (l : Launch) (dC : Nat → ClassId) (dI : Nat → Nat → Nat) (cI cJ cG cZ : ClassId) (a : Nat → Nat) (sz : Nat) (fi : Nat → Int32) (fl : Nat → Int64) (ai : Nat → Nat → Int32) (al : Nat → Nat → Int64) (K : Int64 → (Nat → Int32) → (Nat → Int64) → (Nat → Nat → Int32) → (Nat → Nat → Int64) → Prop) (hw : Se_leastGreatest_w fi fl ai al K) : Met l y_Se_leastGreatest ws_Se_leastGreatest ({ frames := 14, cells := 0, slots := 0, locals := 330 }) (va_Pc [.ref (a 58)] (zw_Bw (dC, dI) vwCl [(cI, .int), (cJ, .long), (cG, .array .int), (cZ, .boolean)] (cw cI cJ cG cZ a fi fl ai al) sz)) (va_Ql (fun r (u : zw_Z) => (zw_k_fi_fl_ai_alr  K) r u.1 u.2.1 u.2.2.1 u.2.2.2) (fun u t => zw_E (dC, dI) vwCl [(cI, .int), (cJ, .long), (cG, .array .int), (cZ, .boolean)] (va_A (cw cI cJ cG cZ a fi fl ai al) sz) (cw cI cJ cG cZ a u.1 u.2.1 u.2.2.1 u.2.2.2) t) (va_A (cw cI cJ cG cZ a fi fl ai al) sz)) 0 0 (va_A (cw cI cJ cG cZ a fi fl ai al) sz) := by
  refine Met.ofW (cc := b_Se_leastGreatest) (maxL := 1) (ret := (Option.some FieldType.long)) (by decide) rfl ?_
  intro p e s m args below meth c s₁ B hml hv
  obtain ⟨rfl, hsz, hP, hK, hD0, hN⟩ := hv
  have hx := B.exec
  have hb := B.bytes
  have hr := B.returns
  have hts := atoms_spec (ws := ws_Se_leastGreatest) B.pre
  have ht : ∀ w ∈ zw_tbl, w.before _ s = true := fun w h => hts w (List.mem_cons_of_mem _ h)
  have hown : s.vm.findClass R_Se = some m.cls := findClass_of_methodNamed B.named
  have hlocks := B.notSynchronized
  subst hsz
  have hD := hD0.self (sz := s.heap.size)
  generalize hAe : va_A (cw cI cJ cG cZ a fi fl ai al) s.heap.size = A at hD ⊢
  have hA : ∀ q : Nat, s.heap.size ≤ q → A q := fun q h => by rw [← hAe]; exact Or.inr h
  have hS : va_S A s.heap s.heap [] := va_S.rf
  have hl := lv_entry ([.ref (a 58)] : List Value) (n := 1) (Nat.le_of_ble_eq_true rfl)
  rw [lg_entry_eq]
  generalize (lg_sl ([.ref (a 58)] : List Value) ++ List.replicate (1 - (lg_sl ([.ref (a 58)] : List Value)).length) Slot.unset).toArray = ls at hl ⊢
  have hl : lv_has ls 1 [(0, .ref (a 58))] := hl
  unfold Se_leastGreatest_w at hw
  obtain ⟨H, hH⟩ : ∃ H, H = s.heap := ⟨_, rfl⟩
  obtain ⟨locs, hlo⟩ : ∃ q : List Loc, q = [] := ⟨_, rfl⟩
  have hP : va_P (dC, dI) vwCl (cw cI cJ cG cZ a fi fl ai al) H := by rw [hH]; exact hP
  have hS : va_S A s.heap H locs := by rw [hH, hlo]; exact hS
  have key : W p l e (headSpec ws_Se_leastGreatest ({ frames := 14, cells := 0, slots := 0, locals := 330 })).room s m ([.ref (a 58)] : List Value).toArray below meth c H locs 0 0 (MQ below (va_Ql (fun r (u : zw_Z) => (zw_k_fi_fl_ai_alr  K) r u.1 u.2.1 u.2.2.1 u.2.2.2) (fun u t => zw_E (dC, dI) vwCl [(cI, .int), (cJ, .long), (cG, .array .int), (cZ, .boolean)] A (cw cI cJ cG cZ a u.1 u.2.1 u.2.2.1 u.2.2.2) t) A) ([.ref (a 58)] : List Value).toArray s 0 0 A) (F0 m 0 ls []) := by
    refine lv_aload_n hx hb d_Se_leastGreatest_0 rfl (lv_at hl 0 rfl) ?_
    refine lv_ldc2 (v := (-1 : Int64)) hx hb hown (hts (.constantLong R_Se 30 (-1 : Int64)) (by decide +kernel)) d_Se_leastGreatest_1 ?_
    refine va_put (D := (dC, dI)) (ci := 5) (v := .long (-1 : Int64)) (ty := .long) (C := R_Se) (T := T_Se) (N := 7) hx hb ht in_Se t_Se t_Se_ok n_Se hown hK hP hD hS 58 rfl rfl 6 (by decide) (ht _ kw_226) (fun _ h9 => h9) rfl (by decide +kernel) rfl rfl (Nat.le_of_ble_eq_true rfl) d_Se_leastGreatest_4 (fun H locs hP hD hS => ?_)
    have hP := cwpfl_0 hP
    have hD := cwdfl_0 hD
    obtain ⟨fl_4, efl_4⟩ : ∃ z, z = va_up fl 0 (-1 : Int64) := ⟨_, rfl⟩
    rw [← efl_4] at hP hD
    have hw := zw_nm_x efl_4 hw
    refine lv_aload_n hx hb d_Se_leastGreatest_7 rfl (lv_at hl 0 rfl) ?_
    refine va_get (D := (dC, dI)) (ci := 5) (v := .ref (a 40)) (C := R_Se) (T := T_Se) (N := 7) hx hb ht in_Se hown hK hP 58 rfl rfl 2 (by decide) (ht _ kw_220) (fun _ h9 => h9) rfl d_Se_leastGreatest_8 ?_
    refine lv_aload_n hx hb d_Se_leastGreatest_11 rfl (lv_at hl 0 rfl) ?_
    refine va_get (D := (dC, dI)) (ci := 5) (v := .ref (a 4)) (C := R_Se) (T := T_Se) (N := 7) hx hb ht in_Se hown hK hP 58 rfl rfl 1 (by decide) (ht _ kw_219) (fun _ h9 => h9) rfl d_Se_leastGreatest_12 ?_
    refine va_get (D := (dC, dI)) (ci := 3) (v := .int (fi 2)) (C := R_Pl) (T := T_Pl) (N := 11) hx hb ht in_Pl hown hK hP 4 rfl rfl 7 (by decide) (ht _ kw_61) (fun _ h9 => h9) rfl d_Se_leastGreatest_15 ?_
    refine lv_iconst (v := (1 : Int32)) hx hb d_Se_leastGreatest_18 (by decide) ?_
    refine lv_isub hx hb d_Se_leastGreatest_19 ?_
    refine lv_aload_n hx hb d_Se_leastGreatest_20 rfl (lv_at hl 0 rfl) ?_
    refine va_get (D := (dC, dI)) (ci := 5) (v := .ref (a 4)) (C := R_Se) (T := T_Se) (N := 7) hx hb ht in_Se hown hK hP 58 rfl rfl 1 (by decide) (ht _ kw_219) (fun _ h9 => h9) rfl d_Se_leastGreatest_21 ?_
    refine vp_callSi (va_Run.run (va_runV (As := []) (rest := [.int ((fi 2) - (1 : Int32)), .ref (a 40)]) ⟨hx, hb, hml, hown, hts⟩ (c_Pl_endDay l dC dI cI cJ cG cZ a fi fl_4 ai al _ hw) (cwV 0 hts (zw_goodV kw_571 kw_428 kw_429 kw_3 kw_430) rfl rfl rfl hd_Pl_endDay ⟨Nat.le_of_ble_eq_true rfl, Nat.le_of_ble_eq_true rfl⟩) (zw_preV (ci := 3) (q0 := 4) hK hN hP rfl rfl) rfl rfl hl.1 rfl (lv_room (Nat.le_of_ble_eq_true rfl)) d_Se_leastGreatest_24 ⟨Nat.le_of_ble_eq_true rfl, Nat.le_of_ble_eq_true rfl⟩)) (fun r24 hw => ?_)
    refine zw_cv (va_runV (As := [.int ((fi 2) - (1 : Int32)), .int r24]) (rest := []) ⟨hx, hb, hml, hown, hts⟩ (c_Wa_aim l dC dI cI cJ cG cZ a H.size fi fl_4 ai al ((fi 2) - (1 : Int32)) r24 _ hw) (cwV 2 hts (zw_goodV kw_572 kw_433 kw_434 kw_7 kw_435) rfl rfl rfl hd_Wa_aim ⟨Nat.le_of_ble_eq_true rfl, Nat.le_of_ble_eq_true rfl⟩) (zw_preVw (ci := 6) (q0 := 40) hK hN hP hD rfl rfl) rfl rfl hl.1 rfl (lv_room (Nat.le_of_ble_eq_true rfl)) d_Se_leastGreatest_27 ⟨Nat.le_of_ble_eq_true rfl, Nat.le_of_ble_eq_true rfl⟩) hD hS hA (fun fi_27 fl_27 ai_27 al_27 H locs hw hP hD hS => ?_)
    obtain ⟨rfl, rfl, hw⟩ := hw
    refine lv_aload_n hx hb d_Se_leastGreatest_30 rfl (lv_at hl 0 rfl) ?_
    refine lv_iconst (v := (0 : Int32)) hx hb d_Se_leastGreatest_31 (by decide) ?_
    refine lv_aload_n hx hb d_Se_leastGreatest_32 rfl (lv_at hl 0 rfl) ?_
    refine va_get (D := (dC, dI)) (ci := 5) (v := .ref (a 4)) (C := R_Se) (T := T_Se) (N := 7) hx hb ht in_Se hown hK hP 58 rfl rfl 1 (by decide) (ht _ kw_219) (fun _ h9 => h9) rfl d_Se_leastGreatest_33 ?_
    refine vp_callSi (va_Run.run (va_runV (As := []) (rest := [.int (0 : Int32), .ref (a 58)]) ⟨hx, hb, hml, hown, hts⟩ (c_Pl_partBits l dC dI cI cJ cG cZ a fi_27 fl_4 ai_27 al _ hw) (cwV 0 hts (zw_goodV kw_573 kw_367 kw_368 kw_3 kw_369) rfl rfl rfl hd_Pl_partBits ⟨Nat.le_of_ble_eq_true rfl, Nat.le_of_ble_eq_true rfl⟩) (zw_preV (ci := 3) (q0 := 4) hK hN hP rfl rfl) rfl rfl hl.1 rfl (lv_room (Nat.le_of_ble_eq_true rfl)) d_Se_leastGreatest_36 ⟨Nat.le_of_ble_eq_true rfl, Nat.le_of_ble_eq_true rfl⟩)) (fun r36 hw => ?_)
    refine lv_iconst (v := (0 : Int32)) hx hb d_Se_leastGreatest_39 (by decide) ?_
    refine zw_cv (va_runV (As := [.int (0 : Int32), .int r36, .int (0 : Int32)]) (rest := []) ⟨hx, hb, hml, hown, hts⟩ (c_Se_tryFrom 7 l dC dI cI cJ cG cZ a H.size fi_27 fl_4 ai_27 al (0 : Int32) r36 (0 : Int32) _ hw) (cwV 3 hts (zw_goodV kw_574 kw_576 kw_s15 kw_8 kw_577) rfl rfl rfl hd_Se_tryFrom ⟨Nat.le_of_ble_eq_true rfl, Nat.le_of_ble_eq_true rfl⟩) (zw_preVw (ci := 5) (q0 := 58) hK hN hP hD rfl rfl) rfl rfl hl.1 rfl (lv_room (Nat.le_of_ble_eq_true rfl)) d_Se_leastGreatest_40 ⟨Nat.le_of_ble_eq_true rfl, Nat.le_of_ble_eq_true rfl⟩) hD hS hA (fun fi_40 fl_40 ai_40 al_40 H locs hw hP hD hS => ?_)
    have hw := hw
    refine lv_aload_n hx hb d_Se_leastGreatest_43 rfl (lv_at hl 0 rfl) ?_
    refine va_get (D := (dC, dI)) (ci := 5) (v := .long (fl_40 0)) (C := R_Se) (T := T_Se) (N := 7) hx hb ht in_Se hown hK hP 58 rfl rfl 6 (by decide) (ht _ kw_226) (fun _ h9 => h9) rfl d_Se_leastGreatest_44 ?_
    exact W.lret (v := (fl_40 0)) hx hb hr (fun t ht hW => ⟨⟨(fl_40 0), (fi_40, fl_40, ai_40, al_40), rfl, hw, by rw [ht]; exact hP, va_K.moved hW.alike hK, hD⟩, hS.F ht⟩) hS.2.2 d_Se_leastGreatest_47
  rw [hH, hlo] at key
  exact key
def SS_best_w (fi : Nat → Int32) (fl : Nat → Int64) (ai : Nat → Nat → Int32) (al : Nat → Nat → Int64) (K : Int64 → (Nat → Int32) → (Nat → Int64) → (Nat → Nat → Int32) → (Nat → Nat → Int64) → Prop) : Prop :=
  if (fi 4) = 0 then (
    K (-1000000000000000000 : Int64) fi fl ai al)
  else (
    Se_leastGreatest_w fi fl ai al  (fun (r18 : Int64) (fi_18 : Nat → Int32) (fl_18 : Nat → Int64) (ai_18 : Nat → Nat → Int32) (al_18 : Nat → Nat → Int64) =>
    K r18 fi_18 fl_18 ai_18 al_18))
theorem d_SS_best_0 : decode b_SS_best 0 = .ok (.aload_n 0, 1) := by decide +kernel
theorem d_SS_best_1 : decode b_SS_best 1 = .ok (.getfield 19, 3) := by decide +kernel
theorem d_SS_best_4 : decode b_SS_best 4 = .ok (.getfield 228, 3) := by decide +kernel
theorem d_SS_best_7 : decode b_SS_best 7 = .ok (.ifCond .ne (7), 3) := by decide +kernel
theorem d_SS_best_10 : decode b_SS_best 10 = .ok (.ldc2_w 128, 3) := by decide +kernel
theorem d_SS_best_13 : decode b_SS_best 13 = .ok (.lreturn, 1) := by decide +kernel
theorem d_SS_best_14 : decode b_SS_best 14 = .ok (.aload_n 0, 1) := by decide +kernel
theorem d_SS_best_15 : decode b_SS_best 15 = .ok (.getfield 73, 3) := by decide +kernel
theorem d_SS_best_18 : decode b_SS_best 18 = .ok (.invokevirtual 231, 3) := by decide +kernel
theorem d_SS_best_21 : decode b_SS_best 21 = .ok (.lreturn, 1) := by decide +kernel
set_option maxHeartbeats 4000000 in
set_option maxRecDepth 100000 in
theorem c_SS_best (l : Launch) (dC : Nat → ClassId) (dI : Nat → Nat → Nat) (cI cJ cG cZ : ClassId) (a : Nat → Nat) (sz : Nat) (fi : Nat → Int32) (fl : Nat → Int64) (ai : Nat → Nat → Int32) (al : Nat → Nat → Int64) (K : Int64 → (Nat → Int32) → (Nat → Int64) → (Nat → Nat → Int32) → (Nat → Nat → Int64) → Prop) (hw : SS_best_w fi fl ai al K) : Met l y_SS_best ws_SS_best ({ frames := 15, cells := 0, slots := 0, locals := 350 }) (va_Pc [.ref (a 0)] (zw_Bw (dC, dI) vwCl [(cI, .int), (cJ, .long), (cG, .array .int), (cZ, .boolean)] (cw cI cJ cG cZ a fi fl ai al) sz)) (va_Ql (fun r (u : zw_Z) => (zw_k_fi_fl_ai_alr  K) r u.1 u.2.1 u.2.2.1 u.2.2.2) (fun u t => zw_E (dC, dI) vwCl [(cI, .int), (cJ, .long), (cG, .array .int), (cZ, .boolean)] (va_A (cw cI cJ cG cZ a fi fl ai al) sz) (cw cI cJ cG cZ a u.1 u.2.1 u.2.2.1 u.2.2.2) t) (va_A (cw cI cJ cG cZ a fi fl ai al) sz)) 0 0 (va_A (cw cI cJ cG cZ a fi fl ai al) sz) := by
  refine Met.ofW (cc := b_SS_best) (maxL := 1) (ret := (Option.some FieldType.long)) (by decide) rfl ?_
  intro p e s m args below meth c s₁ B hml hv
  obtain ⟨rfl, hsz, hP, hK, hD0, hN⟩ := hv
  have hx := B.exec
  have hb := B.bytes
  have hr := B.returns
  have hts := atoms_spec (ws := ws_SS_best) B.pre
  have ht : ∀ w ∈ zw_tbl, w.before _ s = true := fun w h => hts w (List.mem_cons_of_mem _ h)
  have hown : s.vm.findClass R_SS = some m.cls := findClass_of_methodNamed B.named
  have hlocks := B.notSynchronized
  subst hsz
  have hD := hD0.self (sz := s.heap.size)
  generalize hAe : va_A (cw cI cJ cG cZ a fi fl ai al) s.heap.size = A at hD ⊢
  have hA : ∀ q : Nat, s.heap.size ≤ q → A q := fun q h => by rw [← hAe]; exact Or.inr h
  have hS : va_S A s.heap s.heap [] := va_S.rf
  have hl := lv_entry ([.ref (a 0)] : List Value) (n := 1) (Nat.le_of_ble_eq_true rfl)
  rw [lg_entry_eq]
  generalize (lg_sl ([.ref (a 0)] : List Value) ++ List.replicate (1 - (lg_sl ([.ref (a 0)] : List Value)).length) Slot.unset).toArray = ls at hl ⊢
  have hl : lv_has ls 1 [(0, .ref (a 0))] := hl
  unfold SS_best_w at hw
  obtain ⟨H, hH⟩ : ∃ H, H = s.heap := ⟨_, rfl⟩
  obtain ⟨locs, hlo⟩ : ∃ q : List Loc, q = [] := ⟨_, rfl⟩
  have hP : va_P (dC, dI) vwCl (cw cI cJ cG cZ a fi fl ai al) H := by rw [hH]; exact hP
  have hS : va_S A s.heap H locs := by rw [hH, hlo]; exact hS
  have key : W p l e (headSpec ws_SS_best ({ frames := 15, cells := 0, slots := 0, locals := 350 })).room s m ([.ref (a 0)] : List Value).toArray below meth c H locs 0 0 (MQ below (va_Ql (fun r (u : zw_Z) => (zw_k_fi_fl_ai_alr  K) r u.1 u.2.1 u.2.2.1 u.2.2.2) (fun u t => zw_E (dC, dI) vwCl [(cI, .int), (cJ, .long), (cG, .array .int), (cZ, .boolean)] A (cw cI cJ cG cZ a u.1 u.2.1 u.2.2.1 u.2.2.2) t) A) ([.ref (a 0)] : List Value).toArray s 0 0 A) (F0 m 0 ls []) := by
    refine lv_aload_n hx hb d_SS_best_0 rfl (lv_at hl 0 rfl) ?_
    refine va_get (D := (dC, dI)) (ci := 0) (v := .ref (a 4)) (C := R_SS) (T := T_SS) (N := 9) hx hb ht in_SS hown hK hP 0 rfl rfl 2 (by decide) (ht _ kw_244) (fun _ h9 => h9) rfl d_SS_best_1 ?_
    refine va_get (D := (dC, dI)) (ci := 3) (v := .int (fi 4)) (C := R_Pl) (T := T_Pl) (N := 11) hx hb ht in_Pl hown hK hP 4 rfl rfl 9 (by decide) (ht _ kw_69) (fun _ h9 => h9) rfl d_SS_best_4 ?_
    refine lv_if_ne (tgt := 14) hx hb d_SS_best_7 (by decide) (fun c7 => ?_) (fun c7 => ?_)
    · have hw := zw_ite_f c7 hw
      refine lv_aload_n hx hb d_SS_best_14 rfl (lv_at hl 0 rfl) ?_
      refine va_get (D := (dC, dI)) (ci := 0) (v := .ref (a 58)) (C := R_SS) (T := T_SS) (N := 9) hx hb ht in_SS hown hK hP 0 rfl rfl 5 (by decide) (ht _ kw_247) (fun _ h9 => h9) rfl d_SS_best_15 ?_
      refine zw_cl (va_runV (As := []) (rest := []) ⟨hx, hb, hml, hown, hts⟩ (c_Se_leastGreatest l dC dI cI cJ cG cZ a H.size fi fl ai al _ hw) (cwV 0 hts (zw_goodV kw_566 kw_567 kw_568 kw_8 kw_569) rfl rfl rfl hd_Se_leastGreatest ⟨Nat.le_of_ble_eq_true rfl, Nat.le_of_ble_eq_true rfl⟩) (zw_preVw (ci := 5) (q0 := 58) hK hN hP hD rfl rfl) rfl rfl hl.1 rfl (lv_room (Nat.le_of_ble_eq_true rfl)) d_SS_best_18 ⟨Nat.le_of_ble_eq_true rfl, Nat.le_of_ble_eq_true rfl⟩) hD hS hA (fun r18 fi_18 fl_18 ai_18 al_18 H locs hw hP hD hS => ?_)
      have hw := hw
      exact W.lret (v := r18) hx hb hr (fun t ht hW => ⟨⟨r18, (fi_18, fl_18, ai_18, al_18), rfl, hw, by rw [ht]; exact hP, va_K.moved hW.alike hK, hD⟩, hS.F ht⟩) hS.2.2 d_SS_best_21
    · have hw := zw_ite_t c7 hw
      refine lv_ldc2 (v := (-1000000000000000000 : Int64)) hx hb hown (hts (.constantLong R_SS 128 (-1000000000000000000 : Int64)) (by decide +kernel)) d_SS_best_10 ?_
      exact W.lret (v := (-1000000000000000000 : Int64)) hx hb hr (fun t ht hW => ⟨⟨(-1000000000000000000 : Int64), (fi, fl, ai, al), rfl, hw, by rw [ht]; exact hP, va_K.moved hW.alike hK, hD⟩, hS.F ht⟩) hS.2.2 d_SS_best_13
  rw [hH, hlo] at key
  exact key
def SS_order_w (fi : Nat → Int32) (fl : Nat → Int64) (ai : Nat → Nat → Int32) (al : Nat → Nat → Int64) (p0 : Int32) (K : Int64 → Prop) : Prop :=
  SS_within_w p0 (0 : Int32) ((fi 11) - (1 : Int32)) (fun (r11 : Int32) =>
  if r11 = 0 then (
    K (-1000000000000000000 : Int64))
  else (
    vp_in p0 6 ∧ (
    K ((ai 60 p0.toNatClampNeg).toInt64))))
theorem d_SS_order_0 : decode b_SS_order 0 = .ok (.iload_n 1, 1) := by decide +kernel
theorem d_SS_order_1 : decode b_SS_order 1 = .ok (.iconst 0, 1) := by decide +kernel
theorem d_SS_order_2 : decode b_SS_order 2 = .ok (.aload_n 0, 1) := by decide +kernel
theorem d_SS_order_3 : decode b_SS_order 3 = .ok (.getfield 73, 3) := by decide +kernel
theorem d_SS_order_6 : decode b_SS_order 6 = .ok (.getfield 235, 3) := by decide +kernel
theorem d_SS_order_9 : decode b_SS_order 9 = .ok (.iconst 1, 1) := by decide +kernel
theorem d_SS_order_10 : decode b_SS_order 10 = .ok (.isub, 1) := by decide +kernel
theorem d_SS_order_11 : decode b_SS_order 11 = .ok (.invokestatic 81, 3) := by decide +kernel
theorem d_SS_order_14 : decode b_SS_order 14 = .ok (.ifCond .ne (7), 3) := by decide +kernel
theorem d_SS_order_17 : decode b_SS_order 17 = .ok (.ldc2_w 128, 3) := by decide +kernel
theorem d_SS_order_20 : decode b_SS_order 20 = .ok (.lreturn, 1) := by decide +kernel
theorem d_SS_order_21 : decode b_SS_order 21 = .ok (.aload_n 0, 1) := by decide +kernel
theorem d_SS_order_22 : decode b_SS_order 22 = .ok (.getfield 73, 3) := by decide +kernel
theorem d_SS_order_25 : decode b_SS_order 25 = .ok (.getfield 238, 3) := by decide +kernel
theorem d_SS_order_28 : decode b_SS_order 28 = .ok (.iload_n 1, 1) := by decide +kernel
theorem d_SS_order_29 : decode b_SS_order 29 = .ok (.iaload, 1) := by decide +kernel
theorem d_SS_order_30 : decode b_SS_order 30 = .ok (.i2l, 1) := by decide +kernel
theorem d_SS_order_31 : decode b_SS_order 31 = .ok (.lreturn, 1) := by decide +kernel
set_option maxHeartbeats 4000000 in
set_option maxRecDepth 100000 in
theorem c_SS_order (l : Launch) (dC : Nat → ClassId) (dI : Nat → Nat → Nat) (cI cJ cG cZ : ClassId) (a : Nat → Nat) (fi : Nat → Int32) (fl : Nat → Int64) (ai : Nat → Nat → Int32) (al : Nat → Nat → Int64) (p0 : Int32) (K : Int64 → Prop) (hw : SS_order_w fi fl ai al p0 K) : Met l y_SS_order ws_SS_order ({ frames := 1, cells := 0, slots := 0, locals := 22 }) (va_Pc [.ref (a 0), .int p0] (zw_B (dC, dI) vwCl [(cI, .int), (cJ, .long), (cG, .array .int), (cZ, .boolean)] (cw cI cJ cG cZ a fi fl ai al))) (vp_Sl K) 0 0 (fun _ => False) := by
  refine Met.ofW (cc := b_SS_order) (maxL := 2) (ret := (Option.some FieldType.long)) (by decide) rfl ?_
  intro p e s m args below meth c s₁ B hml hv
  obtain ⟨rfl, hP, hK, hN⟩ := hv
  have hx := B.exec
  have hb := B.bytes
  have hr := B.returns
  have hts := atoms_spec (ws := ws_SS_order) B.pre
  have ht : ∀ w ∈ zw_tbl, w.before _ s = true := fun w h => hts w (List.mem_cons_of_mem _ h)
  have hown : s.vm.findClass R_SS = some m.cls := findClass_of_methodNamed B.named
  have hlocks := B.notSynchronized
  have hl := lv_entry ([.ref (a 0), .int p0] : List Value) (n := 2) (Nat.le_of_ble_eq_true rfl)
  rw [lg_entry_eq]
  generalize (lg_sl ([.ref (a 0), .int p0] : List Value) ++ List.replicate (2 - (lg_sl ([.ref (a 0), .int p0] : List Value)).length) Slot.unset).toArray = ls at hl ⊢
  have hl : lv_has ls 2 [(0, .ref (a 0)), (1, .int p0)] := hl
  unfold SS_order_w at hw
  refine lv_iload_n hx hb d_SS_order_0 rfl (lv_at hl 1 rfl) ?_
  refine lv_iconst (v := (0 : Int32)) hx hb d_SS_order_1 (by decide) ?_
  refine lv_aload_n hx hb d_SS_order_2 rfl (lv_at hl 0 rfl) ?_
  refine va_get (D := (dC, dI)) (ci := 0) (v := .ref (a 58)) (C := R_SS) (T := T_SS) (N := 9) hx hb ht in_SS hown hK hP 0 rfl rfl 5 (by decide) (ht _ kw_247) (fun _ h9 => h9) rfl d_SS_order_3 ?_
  refine va_get (D := (dC, dI)) (ci := 5) (v := .int (fi 11)) (C := R_Se) (T := T_Se) (N := 7) hx hb ht in_Se hown hK hP 58 rfl rfl 5 (by decide) (ht _ kw_225) (fun _ h9 => h9) rfl d_SS_order_6 ?_
  refine lv_iconst (v := (1 : Int32)) hx hb d_SS_order_9 (by decide) ?_
  refine lv_isub hx hb d_SS_order_10 ?_
  refine vp_callSi (va_Run.run (va_runS (As := [.int p0, .int (0 : Int32), .int ((fi 11) - (1 : Int32))]) (rest := []) ⟨hx, hb, hml, hown, hts⟩ (c_SS_within l p0 (0 : Int32) ((fi 11) - (1 : Int32)) _ hw) (va_cwS 3 hts (zw_goodS kw_281 kw_279 kw_1 kw_280) rfl rfl rfl hd_SS_within.2 ⟨Nat.le_of_ble_eq_true rfl, Nat.le_of_ble_eq_true rfl⟩) zw_preS0 rfl rfl hl.1 rfl (lv_room (Nat.le_of_ble_eq_true rfl)) d_SS_order_11 ⟨Nat.le_of_ble_eq_true rfl, Nat.le_of_ble_eq_true rfl⟩)) (fun r11 hw => ?_)
  refine lv_if_ne (tgt := 21) hx hb d_SS_order_14 (by decide) (fun c14 => ?_) (fun c14 => ?_)
  · have hw := zw_ite_f c14 hw
    refine lv_aload_n hx hb d_SS_order_21 rfl (lv_at hl 0 rfl) ?_
    refine va_get (D := (dC, dI)) (ci := 0) (v := .ref (a 58)) (C := R_SS) (T := T_SS) (N := 9) hx hb ht in_SS hown hK hP 0 rfl rfl 5 (by decide) (ht _ kw_247) (fun _ h9 => h9) rfl d_SS_order_22 ?_
    refine va_get (D := (dC, dI)) (ci := 5) (v := .ref (a 60)) (C := R_Se) (T := T_Se) (N := 7) hx hb ht in_Se hown hK hP 58 rfl rfl 4 (by decide) (ht _ kw_223) (fun _ h9 => h9) rfl d_SS_order_25 ?_
    refine lv_iload_n hx hb d_SS_order_28 rfl (lv_at hl 1 rfl) ?_
    obtain ⟨h29, hw⟩ := hw
    refine va_iald (f := ai 60) hx hb hK hP 60 0 rfl rfl h29 d_SS_order_29 ?_
    refine lv_i2l hx hb d_SS_order_30 rfl ?_
    exact W.lret (v := (ai 60 p0.toNatClampNeg).toInt64) hx hb hr (fun t ht hW => ⟨(ai 60 p0.toNatClampNeg).toInt64, rfl, hw, ht⟩) t_nil d_SS_order_31
  · have hw := zw_ite_t c14 hw
    refine lv_ldc2 (v := (-1000000000000000000 : Int64)) hx hb hown (hts (.constantLong R_SS 128 (-1000000000000000000 : Int64)) (by decide +kernel)) d_SS_order_17 ?_
    exact W.lret (v := (-1000000000000000000 : Int64)) hx hb hr (fun t ht hW => ⟨(-1000000000000000000 : Int64), rfl, hw, ht⟩) t_nil d_SS_order_20
def SS_told_w (fi : Nat → Int32) (fl : Nat → Int64) (ai : Nat → Nat → Int32) (al : Nat → Nat → Int64) (p0 : Int32) (K : Int64 → Prop) : Prop :=
  if p0 = (0 : Int32) then (
    K ((fi 2).toInt64))
  else (if p0 = (1 : Int32) then (
    K ((fi 3).toInt64))
  else (if p0 = (2 : Int32) then (
    K ((fi 4).toInt64))
  else (if p0 = (3 : Int32) then (
    Pl_onBits_w fi fl ai al  (fun (r71 : Int32) =>
    K r71.toInt64))
  else (if p0 = (4 : Int32) then (
    K ((fi 6).toInt64))
  else (if p0 = (5 : Int32) then (
    if (fi 2) = 0 then (
      K (-1000000000000000000 : Int64))
    else (
      Pl_endDay_w fi fl ai al  (fun (r105 : Int32) =>
      K r105.toInt64)))
  else (
    K (-1000000000000000000 : Int64)))))))
theorem d_SS_told_0 : decode b_SS_told 0 = .ok (.iload_n 1, 1) := by decide +kernel
theorem d_SS_told_1 : decode b_SS_told 1 = .ok (.tableswitch (109) (0) (5) #[39, 48, 57, 66, 75, 84], 39) := by decide +kernel
theorem d_SS_told_40 : decode b_SS_told 40 = .ok (.aload_n 0, 1) := by decide +kernel
theorem d_SS_told_41 : decode b_SS_told 41 = .ok (.getfield 19, 3) := by decide +kernel
theorem d_SS_told_44 : decode b_SS_told 44 = .ok (.getfield 160, 3) := by decide +kernel
theorem d_SS_told_47 : decode b_SS_told 47 = .ok (.i2l, 1) := by decide +kernel
theorem d_SS_told_48 : decode b_SS_told 48 = .ok (.lreturn, 1) := by decide +kernel
theorem d_SS_told_49 : decode b_SS_told 49 = .ok (.aload_n 0, 1) := by decide +kernel
theorem d_SS_told_50 : decode b_SS_told 50 = .ok (.getfield 19, 3) := by decide +kernel
theorem d_SS_told_53 : decode b_SS_told 53 = .ok (.getfield 241, 3) := by decide +kernel
theorem d_SS_told_56 : decode b_SS_told 56 = .ok (.i2l, 1) := by decide +kernel
theorem d_SS_told_57 : decode b_SS_told 57 = .ok (.lreturn, 1) := by decide +kernel
theorem d_SS_told_58 : decode b_SS_told 58 = .ok (.aload_n 0, 1) := by decide +kernel
theorem d_SS_told_59 : decode b_SS_told 59 = .ok (.getfield 19, 3) := by decide +kernel
theorem d_SS_told_62 : decode b_SS_told 62 = .ok (.getfield 228, 3) := by decide +kernel
theorem d_SS_told_65 : decode b_SS_told 65 = .ok (.i2l, 1) := by decide +kernel
theorem d_SS_told_66 : decode b_SS_told 66 = .ok (.lreturn, 1) := by decide +kernel
theorem d_SS_told_67 : decode b_SS_told 67 = .ok (.aload_n 0, 1) := by decide +kernel
theorem d_SS_told_68 : decode b_SS_told 68 = .ok (.getfield 19, 3) := by decide +kernel
theorem d_SS_told_71 : decode b_SS_told 71 = .ok (.invokevirtual 154, 3) := by decide +kernel
theorem d_SS_told_74 : decode b_SS_told 74 = .ok (.i2l, 1) := by decide +kernel
theorem d_SS_told_75 : decode b_SS_told 75 = .ok (.lreturn, 1) := by decide +kernel
theorem d_SS_told_76 : decode b_SS_told 76 = .ok (.aload_n 0, 1) := by decide +kernel
theorem d_SS_told_77 : decode b_SS_told 77 = .ok (.getfield 26, 3) := by decide +kernel
theorem d_SS_told_80 : decode b_SS_told 80 = .ok (.getfield 206, 3) := by decide +kernel
theorem d_SS_told_83 : decode b_SS_told 83 = .ok (.i2l, 1) := by decide +kernel
theorem d_SS_told_84 : decode b_SS_told 84 = .ok (.lreturn, 1) := by decide +kernel
theorem d_SS_told_85 : decode b_SS_told 85 = .ok (.aload_n 0, 1) := by decide +kernel
theorem d_SS_told_86 : decode b_SS_told 86 = .ok (.getfield 19, 3) := by decide +kernel
theorem d_SS_told_89 : decode b_SS_told 89 = .ok (.getfield 160, 3) := by decide +kernel
theorem d_SS_told_92 : decode b_SS_told 92 = .ok (.ifCond .ne (9), 3) := by decide +kernel
theorem d_SS_told_95 : decode b_SS_told 95 = .ok (.ldc2_w 128, 3) := by decide +kernel
theorem d_SS_told_98 : decode b_SS_told 98 = .ok (.goto (11), 3) := by decide +kernel
theorem d_SS_told_101 : decode b_SS_told 101 = .ok (.aload_n 0, 1) := by decide +kernel
theorem d_SS_told_102 : decode b_SS_told 102 = .ok (.getfield 19, 3) := by decide +kernel
theorem d_SS_told_105 : decode b_SS_told 105 = .ok (.invokevirtual 244, 3) := by decide +kernel
theorem d_SS_told_108 : decode b_SS_told 108 = .ok (.i2l, 1) := by decide +kernel
theorem d_SS_told_109 : decode b_SS_told 109 = .ok (.lreturn, 1) := by decide +kernel
theorem d_SS_told_110 : decode b_SS_told 110 = .ok (.ldc2_w 128, 3) := by decide +kernel
theorem d_SS_told_113 : decode b_SS_told 113 = .ok (.lreturn, 1) := by decide +kernel
set_option maxHeartbeats 4000000 in
set_option maxRecDepth 100000 in
theorem c_SS_told (l : Launch) (dC : Nat → ClassId) (dI : Nat → Nat → Nat) (cI cJ cG cZ : ClassId) (a : Nat → Nat) (fi : Nat → Int32) (fl : Nat → Int64) (ai : Nat → Nat → Int32) (al : Nat → Nat → Int64) (p0 : Int32) (K : Int64 → Prop) (hw : SS_told_w fi fl ai al p0 K) : Met l y_SS_told ws_SS_told ({ frames := 2, cells := 0, slots := 0, locals := 43 }) (va_Pc [.ref (a 0), .int p0] (zw_B (dC, dI) vwCl [(cI, .int), (cJ, .long), (cG, .array .int), (cZ, .boolean)] (cw cI cJ cG cZ a fi fl ai al))) (vp_Sl K) 0 0 (fun _ => False) := by
  refine Met.ofW (cc := b_SS_told) (maxL := 2) (ret := (Option.some FieldType.long)) (by decide) rfl ?_
  intro p e s m args below meth c s₁ B hml hv
  obtain ⟨rfl, hP, hK, hN⟩ := hv
  have hx := B.exec
  have hb := B.bytes
  have hr := B.returns
  have hts := atoms_spec (ws := ws_SS_told) B.pre
  have ht : ∀ w ∈ zw_tbl, w.before _ s = true := fun w h => hts w (List.mem_cons_of_mem _ h)
  have hown : s.vm.findClass R_SS = some m.cls := findClass_of_methodNamed B.named
  have hlocks := B.notSynchronized
  have hl := lv_entry ([.ref (a 0), .int p0] : List Value) (n := 2) (Nat.le_of_ble_eq_true rfl)
  rw [lg_entry_eq]
  generalize (lg_sl ([.ref (a 0), .int p0] : List Value) ++ List.replicate (2 - (lg_sl ([.ref (a 0), .int p0] : List Value)).length) Slot.unset).toArray = ls at hl ⊢
  have hl : lv_has ls 2 [(0, .ref (a 0)), (1, .int p0)] := hl
  unfold SS_told_w at hw
  refine lv_iload_n hx hb d_SS_told_0 rfl (lv_at hl 1 rfl) ?_
  by_cases c1_0 : p0 = (0 : Int32)
  · have hw := zw_ite_t c1_0 hw
    refine lv_tableIn (off := 39) (tgt := 40) hx hb d_SS_told_1 (by rw [c1_0]; decide) (by rw [c1_0]; decide) (by rw [c1_0]; rfl) (by decide) ?_
    refine lv_aload_n hx hb d_SS_told_40 rfl (lv_at hl 0 rfl) ?_
    refine va_get (D := (dC, dI)) (ci := 0) (v := .ref (a 4)) (C := R_SS) (T := T_SS) (N := 9) hx hb ht in_SS hown hK hP 0 rfl rfl 2 (by decide) (ht _ kw_244) (fun _ h9 => h9) rfl d_SS_told_41 ?_
    refine va_get (D := (dC, dI)) (ci := 3) (v := .int (fi 2)) (C := R_Pl) (T := T_Pl) (N := 11) hx hb ht in_Pl hown hK hP 4 rfl rfl 7 (by decide) (ht _ kw_62) (fun _ h9 => h9) rfl d_SS_told_44 ?_
    refine lv_i2l hx hb d_SS_told_47 rfl ?_
    exact W.lret (v := (fi 2).toInt64) hx hb hr (fun t ht hW => ⟨(fi 2).toInt64, rfl, hw, ht⟩) t_nil d_SS_told_48
  · have hw := zw_ite_f c1_0 hw
    by_cases c1_1 : p0 = (1 : Int32)
    · have hw := zw_ite_t c1_1 hw
      refine lv_tableIn (off := 48) (tgt := 49) hx hb d_SS_told_1 (by rw [c1_1]; decide) (by rw [c1_1]; decide) (by rw [c1_1]; rfl) (by decide) ?_
      refine lv_aload_n hx hb d_SS_told_49 rfl (lv_at hl 0 rfl) ?_
      refine va_get (D := (dC, dI)) (ci := 0) (v := .ref (a 4)) (C := R_SS) (T := T_SS) (N := 9) hx hb ht in_SS hown hK hP 0 rfl rfl 2 (by decide) (ht _ kw_244) (fun _ h9 => h9) rfl d_SS_told_50 ?_
      refine va_get (D := (dC, dI)) (ci := 3) (v := .int (fi 3)) (C := R_Pl) (T := T_Pl) (N := 11) hx hb ht in_Pl hown hK hP 4 rfl rfl 8 (by decide) (ht _ kw_65) (fun _ h9 => h9) rfl d_SS_told_53 ?_
      refine lv_i2l hx hb d_SS_told_56 rfl ?_
      exact W.lret (v := (fi 3).toInt64) hx hb hr (fun t ht hW => ⟨(fi 3).toInt64, rfl, hw, ht⟩) t_nil d_SS_told_57
    · have hw := zw_ite_f c1_1 hw
      by_cases c1_2 : p0 = (2 : Int32)
      · have hw := zw_ite_t c1_2 hw
        refine lv_tableIn (off := 57) (tgt := 58) hx hb d_SS_told_1 (by rw [c1_2]; decide) (by rw [c1_2]; decide) (by rw [c1_2]; rfl) (by decide) ?_
        refine lv_aload_n hx hb d_SS_told_58 rfl (lv_at hl 0 rfl) ?_
        refine va_get (D := (dC, dI)) (ci := 0) (v := .ref (a 4)) (C := R_SS) (T := T_SS) (N := 9) hx hb ht in_SS hown hK hP 0 rfl rfl 2 (by decide) (ht _ kw_244) (fun _ h9 => h9) rfl d_SS_told_59 ?_
        refine va_get (D := (dC, dI)) (ci := 3) (v := .int (fi 4)) (C := R_Pl) (T := T_Pl) (N := 11) hx hb ht in_Pl hown hK hP 4 rfl rfl 9 (by decide) (ht _ kw_69) (fun _ h9 => h9) rfl d_SS_told_62 ?_
        refine lv_i2l hx hb d_SS_told_65 rfl ?_
        exact W.lret (v := (fi 4).toInt64) hx hb hr (fun t ht hW => ⟨(fi 4).toInt64, rfl, hw, ht⟩) t_nil d_SS_told_66
      · have hw := zw_ite_f c1_2 hw
        by_cases c1_3 : p0 = (3 : Int32)
        · have hw := zw_ite_t c1_3 hw
          refine lv_tableIn (off := 66) (tgt := 67) hx hb d_SS_told_1 (by rw [c1_3]; decide) (by rw [c1_3]; decide) (by rw [c1_3]; rfl) (by decide) ?_
          refine lv_aload_n hx hb d_SS_told_67 rfl (lv_at hl 0 rfl) ?_
          refine va_get (D := (dC, dI)) (ci := 0) (v := .ref (a 4)) (C := R_SS) (T := T_SS) (N := 9) hx hb ht in_SS hown hK hP 0 rfl rfl 2 (by decide) (ht _ kw_244) (fun _ h9 => h9) rfl d_SS_told_68 ?_
          refine vp_callSi (va_Run.run (va_runV (As := []) (rest := []) ⟨hx, hb, hml, hown, hts⟩ (c_Pl_onBits l dC dI cI cJ cG cZ a fi fl ai al _ hw) (cwV 0 hts (zw_goodV kw_392 kw_393 kw_394 kw_3 kw_395) rfl rfl rfl hd_Pl_onBits ⟨Nat.le_of_ble_eq_true rfl, Nat.le_of_ble_eq_true rfl⟩) (zw_preV (ci := 3) (q0 := 4) hK hN hP rfl rfl) rfl rfl hl.1 rfl (lv_room (Nat.le_of_ble_eq_true rfl)) d_SS_told_71 ⟨Nat.le_of_ble_eq_true rfl, Nat.le_of_ble_eq_true rfl⟩)) (fun r71 hw => ?_)
          refine lv_i2l hx hb d_SS_told_74 rfl ?_
          exact W.lret (v := r71.toInt64) hx hb hr (fun t ht hW => ⟨r71.toInt64, rfl, hw, ht⟩) t_nil d_SS_told_75
        · have hw := zw_ite_f c1_3 hw
          by_cases c1_4 : p0 = (4 : Int32)
          · have hw := zw_ite_t c1_4 hw
            refine lv_tableIn (off := 75) (tgt := 76) hx hb d_SS_told_1 (by rw [c1_4]; decide) (by rw [c1_4]; decide) (by rw [c1_4]; rfl) (by decide) ?_
            refine lv_aload_n hx hb d_SS_told_76 rfl (lv_at hl 0 rfl) ?_
            refine va_get (D := (dC, dI)) (ci := 0) (v := .ref (a 12)) (C := R_SS) (T := T_SS) (N := 9) hx hb ht in_SS hown hK hP 0 rfl rfl 3 (by decide) (ht _ kw_245) (fun _ h9 => h9) rfl d_SS_told_77 ?_
            refine va_get (D := (dC, dI)) (ci := 4) (v := .int (fi 6)) (C := R_Ru) (T := T_Ru) (N := 5) hx hb ht in_Ru hown hK hP 12 rfl rfl 4 (by decide) (ht _ kw_108) (fun _ h9 => h9) rfl d_SS_told_80 ?_
            refine lv_i2l hx hb d_SS_told_83 rfl ?_
            exact W.lret (v := (fi 6).toInt64) hx hb hr (fun t ht hW => ⟨(fi 6).toInt64, rfl, hw, ht⟩) t_nil d_SS_told_84
          · have hw := zw_ite_f c1_4 hw
            by_cases c1_5 : p0 = (5 : Int32)
            · have hw := zw_ite_t c1_5 hw
              refine lv_tableIn (off := 84) (tgt := 85) hx hb d_SS_told_1 (by rw [c1_5]; decide) (by rw [c1_5]; decide) (by rw [c1_5]; rfl) (by decide) ?_
              refine lv_aload_n hx hb d_SS_told_85 rfl (lv_at hl 0 rfl) ?_
              refine va_get (D := (dC, dI)) (ci := 0) (v := .ref (a 4)) (C := R_SS) (T := T_SS) (N := 9) hx hb ht in_SS hown hK hP 0 rfl rfl 2 (by decide) (ht _ kw_244) (fun _ h9 => h9) rfl d_SS_told_86 ?_
              refine va_get (D := (dC, dI)) (ci := 3) (v := .int (fi 2)) (C := R_Pl) (T := T_Pl) (N := 11) hx hb ht in_Pl hown hK hP 4 rfl rfl 7 (by decide) (ht _ kw_62) (fun _ h9 => h9) rfl d_SS_told_89 ?_
              refine lv_if_ne (tgt := 101) hx hb d_SS_told_92 (by decide) (fun c92 => ?_) (fun c92 => ?_)
              · have hw := zw_ite_f c92 hw
                refine lv_aload_n hx hb d_SS_told_101 rfl (lv_at hl 0 rfl) ?_
                refine va_get (D := (dC, dI)) (ci := 0) (v := .ref (a 4)) (C := R_SS) (T := T_SS) (N := 9) hx hb ht in_SS hown hK hP 0 rfl rfl 2 (by decide) (ht _ kw_244) (fun _ h9 => h9) rfl d_SS_told_102 ?_
                refine vp_callSi (va_Run.run (va_runV (As := []) (rest := []) ⟨hx, hb, hml, hown, hts⟩ (c_Pl_endDay l dC dI cI cJ cG cZ a fi fl ai al _ hw) (cwV 0 hts (zw_goodV kw_427 kw_428 kw_429 kw_3 kw_430) rfl rfl rfl hd_Pl_endDay ⟨Nat.le_of_ble_eq_true rfl, Nat.le_of_ble_eq_true rfl⟩) (zw_preV (ci := 3) (q0 := 4) hK hN hP rfl rfl) rfl rfl hl.1 rfl (lv_room (Nat.le_of_ble_eq_true rfl)) d_SS_told_105 ⟨Nat.le_of_ble_eq_true rfl, Nat.le_of_ble_eq_true rfl⟩)) (fun r105 hw => ?_)
                refine lv_i2l hx hb d_SS_told_108 rfl ?_
                exact W.lret (v := r105.toInt64) hx hb hr (fun t ht hW => ⟨r105.toInt64, rfl, hw, ht⟩) t_nil d_SS_told_109
              · have hw := zw_ite_t c92 hw
                refine lv_ldc2 (v := (-1000000000000000000 : Int64)) hx hb hown (hts (.constantLong R_SS 128 (-1000000000000000000 : Int64)) (by decide +kernel)) d_SS_told_95 ?_
                refine lv_goto (tgt := 109) hx hb d_SS_told_98 (by decide) ?_
                exact W.lret (v := (-1000000000000000000 : Int64)) hx hb hr (fun t ht hW => ⟨(-1000000000000000000 : Int64), rfl, hw, ht⟩) t_nil d_SS_told_109
            · have hw := zw_ite_f c1_5 hw
              refine lv_tableOut (tgt := 110) hx hb d_SS_told_1 (by have := lv_neT (a := 0) c1_0 (by decide); have := lv_neT (a := 1) c1_1 (by decide); have := lv_neT (a := 2) c1_2 (by decide); have := lv_neT (a := 3) c1_3 (by decide); have := lv_neT (a := 4) c1_4 (by decide); have := lv_neT (a := 5) c1_5 (by decide); omega) (by decide) ?_
              refine lv_ldc2 (v := (-1000000000000000000 : Int64)) hx hb hown (hts (.constantLong R_SS 128 (-1000000000000000000 : Int64)) (by decide +kernel)) d_SS_told_110 ?_
              exact W.lret (v := (-1000000000000000000 : Int64)) hx hb hr (fun t ht hW => ⟨(-1000000000000000000 : Int64), rfl, hw, ht⟩) t_nil d_SS_told_113
