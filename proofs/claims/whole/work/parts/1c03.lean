def Pl_onBits_w (fi : Nat → Int32) (fl : Nat → Int64) (ai : Nat → Nat → Int32) (al : Nat → Nat → Int64) (K : Int32 → Prop) : Prop :=
  zw_nm (0 : Int32) (fun (v1 : Int32) =>
  zw_nm (0 : Int32) (fun (v3 : Int32) =>
  zw_lp2 (fun L4 (x4_1 : Int32) (x4_2 : Int32) =>
  if (fi 3) ≤ x4_2 then (
    K x4_1)
  else (
    vp_in x4_2 40 ∧ (
    zw_jn1 (fun (x59_1 : Int32) =>
    zw_nm (x4_2 + (1 : Int32)) (fun (v59 : Int32) =>
    L4 x59_1 v59)) (fun J59 =>
    if (ai 6 x4_2.toNatClampNeg) = (2 : Int32) then (
      vp_in x4_2 40 ∧ (
      zw_nm (x4_1 ||| ((1 : Int32) <<< ((ai 7 x4_2.toNatClampNeg) &&& 31))) (fun (v32 : Int32) =>
      J59 v32)))
    else (
      vp_in x4_2 40 ∧ (
      if (ai 6 x4_2.toNatClampNeg) = (3 : Int32) then (
        vp_in x4_2 40 ∧ (
        zw_nm (x4_1 &&& (((1 : Int32) <<< ((ai 7 x4_2.toNatClampNeg) &&& 31)) ^^^ (-1 : Int32))) (fun (v58 : Int32) =>
        J59 v58)))
      else (
        J59 x4_1))))))) v1 v3))
theorem d_Pl_onBits_0 : decode b_Pl_onBits 0 = .ok (.iconst 0, 1) := by decide +kernel
theorem d_Pl_onBits_1 : decode b_Pl_onBits 1 = .ok (.istore_n 1, 1) := by decide +kernel
theorem d_Pl_onBits_2 : decode b_Pl_onBits 2 = .ok (.iconst 0, 1) := by decide +kernel
theorem d_Pl_onBits_3 : decode b_Pl_onBits 3 = .ok (.istore_n 2, 1) := by decide +kernel
theorem d_Pl_onBits_4 : decode b_Pl_onBits 4 = .ok (.iload_n 2, 1) := by decide +kernel
theorem d_Pl_onBits_5 : decode b_Pl_onBits 5 = .ok (.aload_n 0, 1) := by decide +kernel
theorem d_Pl_onBits_6 : decode b_Pl_onBits 6 = .ok (.getfield 44, 3) := by decide +kernel
theorem d_Pl_onBits_9 : decode b_Pl_onBits 9 = .ok (.if_icmp .ge (56), 3) := by decide +kernel
theorem d_Pl_onBits_12 : decode b_Pl_onBits 12 = .ok (.aload_n 0, 1) := by decide +kernel
theorem d_Pl_onBits_13 : decode b_Pl_onBits 13 = .ok (.getfield 15, 3) := by decide +kernel
theorem d_Pl_onBits_16 : decode b_Pl_onBits 16 = .ok (.iload_n 2, 1) := by decide +kernel
theorem d_Pl_onBits_17 : decode b_Pl_onBits 17 = .ok (.iaload, 1) := by decide +kernel
theorem d_Pl_onBits_18 : decode b_Pl_onBits 18 = .ok (.iconst 2, 1) := by decide +kernel
theorem d_Pl_onBits_19 : decode b_Pl_onBits 19 = .ok (.if_icmp .ne (17), 3) := by decide +kernel
theorem d_Pl_onBits_22 : decode b_Pl_onBits 22 = .ok (.iload_n 1, 1) := by decide +kernel
theorem d_Pl_onBits_23 : decode b_Pl_onBits 23 = .ok (.iconst 1, 1) := by decide +kernel
theorem d_Pl_onBits_24 : decode b_Pl_onBits 24 = .ok (.aload_n 0, 1) := by decide +kernel
theorem d_Pl_onBits_25 : decode b_Pl_onBits 25 = .ok (.getfield 18, 3) := by decide +kernel
theorem d_Pl_onBits_28 : decode b_Pl_onBits 28 = .ok (.iload_n 2, 1) := by decide +kernel
theorem d_Pl_onBits_29 : decode b_Pl_onBits 29 = .ok (.iaload, 1) := by decide +kernel
theorem d_Pl_onBits_30 : decode b_Pl_onBits 30 = .ok (.ishl, 1) := by decide +kernel
theorem d_Pl_onBits_31 : decode b_Pl_onBits 31 = .ok (.ior, 1) := by decide +kernel
theorem d_Pl_onBits_32 : decode b_Pl_onBits 32 = .ok (.istore_n 1, 1) := by decide +kernel
theorem d_Pl_onBits_33 : decode b_Pl_onBits 33 = .ok (.goto (26), 3) := by decide +kernel
theorem d_Pl_onBits_36 : decode b_Pl_onBits 36 = .ok (.aload_n 0, 1) := by decide +kernel
theorem d_Pl_onBits_37 : decode b_Pl_onBits 37 = .ok (.getfield 15, 3) := by decide +kernel
theorem d_Pl_onBits_40 : decode b_Pl_onBits 40 = .ok (.iload_n 2, 1) := by decide +kernel
theorem d_Pl_onBits_41 : decode b_Pl_onBits 41 = .ok (.iaload, 1) := by decide +kernel
theorem d_Pl_onBits_42 : decode b_Pl_onBits 42 = .ok (.iconst 3, 1) := by decide +kernel
theorem d_Pl_onBits_43 : decode b_Pl_onBits 43 = .ok (.if_icmp .ne (16), 3) := by decide +kernel
theorem d_Pl_onBits_46 : decode b_Pl_onBits 46 = .ok (.iload_n 1, 1) := by decide +kernel
theorem d_Pl_onBits_47 : decode b_Pl_onBits 47 = .ok (.iconst 1, 1) := by decide +kernel
theorem d_Pl_onBits_48 : decode b_Pl_onBits 48 = .ok (.aload_n 0, 1) := by decide +kernel
theorem d_Pl_onBits_49 : decode b_Pl_onBits 49 = .ok (.getfield 18, 3) := by decide +kernel
theorem d_Pl_onBits_52 : decode b_Pl_onBits 52 = .ok (.iload_n 2, 1) := by decide +kernel
theorem d_Pl_onBits_53 : decode b_Pl_onBits 53 = .ok (.iaload, 1) := by decide +kernel
theorem d_Pl_onBits_54 : decode b_Pl_onBits 54 = .ok (.ishl, 1) := by decide +kernel
theorem d_Pl_onBits_55 : decode b_Pl_onBits 55 = .ok (.iconst (-1), 1) := by decide +kernel
theorem d_Pl_onBits_56 : decode b_Pl_onBits 56 = .ok (.ixor, 1) := by decide +kernel
theorem d_Pl_onBits_57 : decode b_Pl_onBits 57 = .ok (.iand, 1) := by decide +kernel
theorem d_Pl_onBits_58 : decode b_Pl_onBits 58 = .ok (.istore_n 1, 1) := by decide +kernel
theorem d_Pl_onBits_59 : decode b_Pl_onBits 59 = .ok (.iinc 2 (1), 3) := by decide +kernel
theorem d_Pl_onBits_62 : decode b_Pl_onBits 62 = .ok (.goto (-58), 3) := by decide +kernel
theorem d_Pl_onBits_65 : decode b_Pl_onBits 65 = .ok (.iload_n 1, 1) := by decide +kernel
theorem d_Pl_onBits_66 : decode b_Pl_onBits 66 = .ok (.ireturn, 1) := by decide +kernel
set_option maxHeartbeats 4000000 in
set_option maxRecDepth 100000 in
theorem c_Pl_onBits (l : Launch) (dC : Nat → ClassId) (dI : Nat → Nat → Nat) (cI cJ cG cZ : ClassId) (a : Nat → Nat) (fi : Nat → Int32) (fl : Nat → Int64) (ai : Nat → Nat → Int32) (al : Nat → Nat → Int64) (K : Int32 → Prop) (hw : Pl_onBits_w fi fl ai al K) : Met l y_Pl_onBits ws_Pl_onBits ({ frames := 0, cells := 0, slots := 0, locals := 0 }) (va_Pc [.ref (a 4)] (zw_B (dC, dI) vwCl [(cI, .int), (cJ, .long), (cG, .array .int), (cZ, .boolean)] (cw cI cJ cG cZ a fi fl ai al))) (vp_Si K) 0 0 (fun _ => False) := by
  refine Met.ofW (cc := b_Pl_onBits) (maxL := 3) (ret := (Option.some FieldType.int)) (by decide) rfl ?_
  intro p e s m args below meth c s₁ B hml hv
  obtain ⟨rfl, hP, hK, hN⟩ := hv
  have hx := B.exec
  have hb := B.bytes
  have hr := B.returns
  have hts := atoms_spec (ws := ws_Pl_onBits) B.pre
  have ht : ∀ w ∈ zw_tbl, w.before _ s = true := fun w h => hts w (List.mem_cons_of_mem _ h)
  have hown : s.vm.findClass R_Pl = some m.cls := findClass_of_methodNamed B.named
  have hlocks := B.notSynchronized
  have hl := lv_entry ([.ref (a 4)] : List Value) (n := 3) (Nat.le_of_ble_eq_true rfl)
  rw [lg_entry_eq]
  generalize (lg_sl ([.ref (a 4)] : List Value) ++ List.replicate (3 - (lg_sl ([.ref (a 4)] : List Value)).length) Slot.unset).toArray = ls at hl ⊢
  have hl : lv_has ls 3 [(0, .ref (a 4))] := hl
  unfold Pl_onBits_w at hw
  refine lv_iconst (v := (0 : Int32)) hx hb d_Pl_onBits_0 (by decide) ?_
  refine lv_topi (fun v1 ev1 => ?_)
  have hw := zw_nm_x ev1 hw
  refine lv_istore_n (lv' := [(1, .int v1), (0, .ref (a 4))]) hx hb d_Pl_onBits_1 rfl hl (by decide) rfl (fun ls hl => ?_)
  refine lv_iconst (v := (0 : Int32)) hx hb d_Pl_onBits_2 (by decide) ?_
  refine lv_topi (fun v3 ev3 => ?_)
  have hw := zw_nm_x ev3 hw
  refine lv_istore_n (lv' := [(2, .int v3), (1, .int v1), (0, .ref (a 4))]) hx hb d_Pl_onBits_3 rfl hl (by decide) rfl (fun ls hl => ?_)
  refine (zw_lp2_i (P := fun (x4_1 : Int32) (x4_2 : Int32) => ∀ (ls : Array Slot), lv_has ls 3 [(0, .ref (a 4)), (1, .int x4_1), (2, .int x4_2)] → W p l e (headSpec ws_Pl_onBits ({ frames := 0, cells := 0, slots := 0, locals := 0 })).room s m ([.ref (a 4)] : List Value).toArray below meth c s.heap [] 0 0 (MQ below (vp_Si K) ([.ref (a 4)] : List Value).toArray s 0 0 (fun _ => False)) (F0 m 4 ls [])) hw (fun L4 x4_1 x4_2 ih4 hw ls hl => ?_)) ls (lv_sub hl [2, 1, 0] rfl)
  refine lv_iload_n hx hb d_Pl_onBits_4 rfl (lv_at hl 2 rfl) ?_
  refine lv_aload_n hx hb d_Pl_onBits_5 rfl (lv_at hl 0 rfl) ?_
  refine va_get (D := (dC, dI)) (ci := 3) (v := .int (fi 3)) (C := R_Pl) (T := T_Pl) (N := 11) hx hb ht in_Pl hown hK hP 4 rfl rfl 8 (by decide) (ht _ kw_63) (fun _ h9 => h9) rfl d_Pl_onBits_6 ?_
  refine lv_icmp_ge (tgt := 65) hx hb d_Pl_onBits_9 (by decide) (fun c9 => ?_) (fun c9 => ?_)
  · have hw := zw_ite_t c9 hw
    refine lv_iload_n hx hb d_Pl_onBits_65 rfl (lv_at hl 1 rfl) ?_
    exact W.iret (v := x4_1) hx hb hr (fun t ht hW => ⟨x4_1, rfl, hw, ht⟩) t_nil d_Pl_onBits_66
  · have hw := zw_ite_f c9 hw
    refine lv_aload_n hx hb d_Pl_onBits_12 rfl (lv_at hl 0 rfl) ?_
    refine va_get (D := (dC, dI)) (ci := 3) (v := .ref (a 6)) (C := R_Pl) (T := T_Pl) (N := 11) hx hb ht in_Pl hown hK hP 4 rfl rfl 1 (by decide) (ht _ kw_46) (fun _ h9 => h9) rfl d_Pl_onBits_13 ?_
    refine lv_iload_n hx hb d_Pl_onBits_16 rfl (lv_at hl 2 rfl) ?_
    obtain ⟨h17, hw⟩ := hw
    refine va_iald (f := ai 6) hx hb hK hP 6 0 rfl rfl h17 d_Pl_onBits_17 ?_
    refine lv_iconst (v := (2 : Int32)) hx hb d_Pl_onBits_18 (by decide) ?_
    refine zw_jn1_i (P := fun (x59_1 : Int32) => ∀ (ls : Array Slot), lv_has ls 3 [(0, .ref (a 4)), (1, .int x59_1), (2, .int x4_2)] → W p l e (headSpec ws_Pl_onBits ({ frames := 0, cells := 0, slots := 0, locals := 0 })).room s m ([.ref (a 4)] : List Value).toArray below meth c s.heap [] 0 0 (MQ below (vp_Si K) ([.ref (a 4)] : List Value).toArray s 0 0 (fun _ => False)) (F0 m 59 ls [])) hw (fun x59_1 hw ls hl => ?_) (fun J59 hj59 hw => ?_)
    · obtain ⟨v59, ev59⟩ : ∃ y : Int32, y = x4_2 + (1 : Int32) := ⟨_, rfl⟩
      refine lv_iinc (v := v59) (lv' := [(2, .int v59), (0, .ref (a 4)), (1, .int x59_1)]) hx hb d_Pl_onBits_59 hl (k := 2) rfl (by rw [ev59]; rfl) (by decide) rfl (fun ls hl => ?_)
      have hw := zw_nm_x ev59 hw
      refine lv_goto (tgt := 4) hx hb d_Pl_onBits_62 (by decide) ?_
      exact (ih4 x59_1 v59 hw) ls (lv_sub hl [1, 2, 0] rfl)
    · refine lv_icmp_ne (tgt := 36) hx hb d_Pl_onBits_19 (by decide) (fun c19 => ?_) (fun c19 => ?_)
      · have hw := zw_ite_f c19 hw
        refine lv_aload_n hx hb d_Pl_onBits_36 rfl (lv_at hl 0 rfl) ?_
        refine va_get (D := (dC, dI)) (ci := 3) (v := .ref (a 6)) (C := R_Pl) (T := T_Pl) (N := 11) hx hb ht in_Pl hown hK hP 4 rfl rfl 1 (by decide) (ht _ kw_46) (fun _ h9 => h9) rfl d_Pl_onBits_37 ?_
        refine lv_iload_n hx hb d_Pl_onBits_40 rfl (lv_at hl 2 rfl) ?_
        obtain ⟨h41, hw⟩ := hw
        refine va_iald (f := ai 6) hx hb hK hP 6 0 rfl rfl h41 d_Pl_onBits_41 ?_
        refine lv_iconst (v := (3 : Int32)) hx hb d_Pl_onBits_42 (by decide) ?_
        refine lv_icmp_ne (tgt := 59) hx hb d_Pl_onBits_43 (by decide) (fun c43 => ?_) (fun c43 => ?_)
        · have hw := zw_ite_f c43 hw
          exact (hj59 x4_1 hw) ls (lv_sub hl [0, 1, 2] rfl)
        · have hw := zw_ite_t c43 hw
          refine lv_iload_n hx hb d_Pl_onBits_46 rfl (lv_at hl 1 rfl) ?_
          refine lv_iconst (v := (1 : Int32)) hx hb d_Pl_onBits_47 (by decide) ?_
          refine lv_aload_n hx hb d_Pl_onBits_48 rfl (lv_at hl 0 rfl) ?_
          refine va_get (D := (dC, dI)) (ci := 3) (v := .ref (a 7)) (C := R_Pl) (T := T_Pl) (N := 11) hx hb ht in_Pl hown hK hP 4 rfl rfl 2 (by decide) (ht _ kw_48) (fun _ h9 => h9) rfl d_Pl_onBits_49 ?_
          refine lv_iload_n hx hb d_Pl_onBits_52 rfl (lv_at hl 2 rfl) ?_
          obtain ⟨h53, hw⟩ := hw
          refine va_iald (f := ai 7) hx hb hK hP 7 0 rfl rfl h53 d_Pl_onBits_53 ?_
          refine lv_ishl hx hb d_Pl_onBits_54 ?_
          refine lv_iconst (v := (-1 : Int32)) hx hb d_Pl_onBits_55 (by decide) ?_
          refine lv_ixor hx hb d_Pl_onBits_56 ?_
          refine lv_iand hx hb d_Pl_onBits_57 ?_
          refine lv_topi (fun v58 ev58 => ?_)
          have hw := zw_nm_x ev58 hw
          refine lv_istore_n (lv' := [(1, .int v58), (0, .ref (a 4)), (2, .int x4_2)]) hx hb d_Pl_onBits_58 rfl hl (by decide) rfl (fun ls hl => ?_)
          exact (hj59 v58 hw) ls (lv_sub hl [1, 0, 2] rfl)
      · have hw := zw_ite_t c19 hw
        refine lv_iload_n hx hb d_Pl_onBits_22 rfl (lv_at hl 1 rfl) ?_
        refine lv_iconst (v := (1 : Int32)) hx hb d_Pl_onBits_23 (by decide) ?_
        refine lv_aload_n hx hb d_Pl_onBits_24 rfl (lv_at hl 0 rfl) ?_
        refine va_get (D := (dC, dI)) (ci := 3) (v := .ref (a 7)) (C := R_Pl) (T := T_Pl) (N := 11) hx hb ht in_Pl hown hK hP 4 rfl rfl 2 (by decide) (ht _ kw_48) (fun _ h9 => h9) rfl d_Pl_onBits_25 ?_
        refine lv_iload_n hx hb d_Pl_onBits_28 rfl (lv_at hl 2 rfl) ?_
        obtain ⟨h29, hw⟩ := hw
        refine va_iald (f := ai 7) hx hb hK hP 7 0 rfl rfl h29 d_Pl_onBits_29 ?_
        refine lv_ishl hx hb d_Pl_onBits_30 ?_
        refine lv_ior hx hb d_Pl_onBits_31 ?_
        refine lv_topi (fun v32 ev32 => ?_)
        have hw := zw_nm_x ev32 hw
        refine lv_istore_n (lv' := [(1, .int v32), (0, .ref (a 4)), (2, .int x4_2)]) hx hb d_Pl_onBits_32 rfl hl (by decide) rfl (fun ls hl => ?_)
        refine lv_goto (tgt := 59) hx hb d_Pl_onBits_33 (by decide) ?_
        exact (hj59 v32 hw) ls (lv_sub hl [1, 0, 2] rfl)
def SS_support_w (fi : Nat → Int32) (fl : Nat → Int64) (ai : Nat → Nat → Int32) (al : Nat → Nat → Int64) (p0 : Int32) (p1 : Int32) (K : Int32 → (Nat → Int32) → (Nat → Nat → Int32) → Prop) : Prop :=
  Pl_hasRoom_w fi fl ai al  (fun (r4 : Int32) =>
  if r4 = 0 then (
    K (0 : Int32) fi ai)
  else (
    SS_isSupport_w p0 (fun (r11 : Int32) =>
    if r11 = 0 then (
      K (0 : Int32) fi ai)
    else (
      Pl_onBits_w fi fl ai al  (fun (r21 : Int32) =>
      SS_hasBit_w r21 p0 (fun (r25 : Int32) =>
      if r25 = p1 then (
        K (0 : Int32) fi ai)
      else (
        zw_jn1 (fun (y47_0 : Int32) =>
        Pl_putAct_w fi fl ai al y47_0 p0 (0 : Int32) (fun (fi_49 : Nat → Int32) (ai_49 : Nat → Nat → Int32) =>
        K (1 : Int32) fi_49 ai_49)) (fun J47 =>
        if p1 = 0 then (
          J47 (3 : Int32))
        else (
          J47 (2 : Int32))))))))))
theorem d_SS_support_0 : decode b_SS_support 0 = .ok (.aload_n 0, 1) := by decide +kernel
theorem d_SS_support_1 : decode b_SS_support 1 = .ok (.getfield 19, 3) := by decide +kernel
theorem d_SS_support_4 : decode b_SS_support 4 = .ok (.invokevirtual 146, 3) := by decide +kernel
theorem d_SS_support_7 : decode b_SS_support 7 = .ok (.ifCond .eq (25), 3) := by decide +kernel
theorem d_SS_support_10 : decode b_SS_support 10 = .ok (.iload_n 1, 1) := by decide +kernel
theorem d_SS_support_11 : decode b_SS_support 11 = .ok (.invokestatic 101, 3) := by decide +kernel
theorem d_SS_support_14 : decode b_SS_support 14 = .ok (.ifCond .eq (18), 3) := by decide +kernel
theorem d_SS_support_17 : decode b_SS_support 17 = .ok (.aload_n 0, 1) := by decide +kernel
theorem d_SS_support_18 : decode b_SS_support 18 = .ok (.getfield 19, 3) := by decide +kernel
theorem d_SS_support_21 : decode b_SS_support 21 = .ok (.invokevirtual 154, 3) := by decide +kernel
theorem d_SS_support_24 : decode b_SS_support 24 = .ok (.iload_n 1, 1) := by decide +kernel
theorem d_SS_support_25 : decode b_SS_support 25 = .ok (.invokestatic 157, 3) := by decide +kernel
theorem d_SS_support_28 : decode b_SS_support 28 = .ok (.iload_n 2, 1) := by decide +kernel
theorem d_SS_support_29 : decode b_SS_support 29 = .ok (.if_icmp .ne (5), 3) := by decide +kernel
theorem d_SS_support_32 : decode b_SS_support 32 = .ok (.iconst 0, 1) := by decide +kernel
theorem d_SS_support_33 : decode b_SS_support 33 = .ok (.ireturn, 1) := by decide +kernel
theorem d_SS_support_34 : decode b_SS_support 34 = .ok (.aload_n 0, 1) := by decide +kernel
theorem d_SS_support_35 : decode b_SS_support 35 = .ok (.getfield 19, 3) := by decide +kernel
theorem d_SS_support_38 : decode b_SS_support 38 = .ok (.iload_n 2, 1) := by decide +kernel
theorem d_SS_support_39 : decode b_SS_support 39 = .ok (.ifCond .eq (7), 3) := by decide +kernel
theorem d_SS_support_42 : decode b_SS_support 42 = .ok (.iconst 2, 1) := by decide +kernel
theorem d_SS_support_43 : decode b_SS_support 43 = .ok (.goto (4), 3) := by decide +kernel
theorem d_SS_support_46 : decode b_SS_support 46 = .ok (.iconst 3, 1) := by decide +kernel
theorem d_SS_support_47 : decode b_SS_support 47 = .ok (.iload_n 1, 1) := by decide +kernel
theorem d_SS_support_48 : decode b_SS_support 48 = .ok (.iconst 0, 1) := by decide +kernel
theorem d_SS_support_49 : decode b_SS_support 49 = .ok (.invokevirtual 150, 3) := by decide +kernel
theorem d_SS_support_52 : decode b_SS_support 52 = .ok (.iconst 1, 1) := by decide +kernel
theorem d_SS_support_53 : decode b_SS_support 53 = .ok (.ireturn, 1) := by decide +kernel
set_option maxHeartbeats 4000000 in
set_option maxRecDepth 100000 in
theorem c_SS_support (l : Launch) (dC : Nat → ClassId) (dI : Nat → Nat → Nat) (cI cJ cG cZ : ClassId) (a : Nat → Nat) (sz : Nat) (fi : Nat → Int32) (fl : Nat → Int64) (ai : Nat → Nat → Int32) (al : Nat → Nat → Int64) (p0 : Int32) (p1 : Int32) (K : Int32 → (Nat → Int32) → (Nat → Nat → Int32) → Prop) (hw : SS_support_w fi fl ai al p0 p1 K) : Met l y_SS_support ws_SS_support ({ frames := 2, cells := 0, slots := 0, locals := 42 }) (va_Pc [.ref (a 0), .int p0, .int p1] (zw_Bw (dC, dI) vwCl [(cI, .int), (cJ, .long), (cG, .array .int), (cZ, .boolean)] (cw cI cJ cG cZ a fi fl ai al) sz)) (va_Qi (fun r (u : zw_Z) => (zw_k_fi_air fl al K) r u.1 u.2.1 u.2.2.1 u.2.2.2) (fun u t => zw_E (dC, dI) vwCl [(cI, .int), (cJ, .long), (cG, .array .int), (cZ, .boolean)] (va_A (cw cI cJ cG cZ a fi fl ai al) sz) (cw cI cJ cG cZ a u.1 u.2.1 u.2.2.1 u.2.2.2) t) (va_A (cw cI cJ cG cZ a fi fl ai al) sz)) 0 0 (va_A (cw cI cJ cG cZ a fi fl ai al) sz) := by
  refine Met.ofW (cc := b_SS_support) (maxL := 3) (ret := (Option.some FieldType.boolean)) (by decide) rfl ?_
  intro p e s m args below meth c s₁ B hml hv
  obtain ⟨rfl, hsz, hP, hK, hD0, hN⟩ := hv
  have hx := B.exec
  have hb := B.bytes
  have hr := B.returns
  have hts := atoms_spec (ws := ws_SS_support) B.pre
  have ht : ∀ w ∈ zw_tbl, w.before _ s = true := fun w h => hts w (List.mem_cons_of_mem _ h)
  have hown : s.vm.findClass R_SS = some m.cls := findClass_of_methodNamed B.named
  have hlocks := B.notSynchronized
  subst hsz
  have hD := hD0.self (sz := s.heap.size)
  generalize hAe : va_A (cw cI cJ cG cZ a fi fl ai al) s.heap.size = A at hD ⊢
  have hA : ∀ q : Nat, s.heap.size ≤ q → A q := fun q h => by rw [← hAe]; exact Or.inr h
  have hS : va_S A s.heap s.heap [] := va_S.rf
  have hl := lv_entry ([.ref (a 0), .int p0, .int p1] : List Value) (n := 3) (Nat.le_of_ble_eq_true rfl)
  rw [lg_entry_eq]
  generalize (lg_sl ([.ref (a 0), .int p0, .int p1] : List Value) ++ List.replicate (3 - (lg_sl ([.ref (a 0), .int p0, .int p1] : List Value)).length) Slot.unset).toArray = ls at hl ⊢
  have hl : lv_has ls 3 [(0, .ref (a 0)), (1, .int p0), (2, .int p1)] := hl
  unfold SS_support_w at hw
  obtain ⟨H, hH⟩ : ∃ H, H = s.heap := ⟨_, rfl⟩
  obtain ⟨locs, hlo⟩ : ∃ q : List Loc, q = [] := ⟨_, rfl⟩
  have hP : va_P (dC, dI) vwCl (cw cI cJ cG cZ a fi fl ai al) H := by rw [hH]; exact hP
  have hS : va_S A s.heap H locs := by rw [hH, hlo]; exact hS
  have key : W p l e (headSpec ws_SS_support ({ frames := 2, cells := 0, slots := 0, locals := 42 })).room s m ([.ref (a 0), .int p0, .int p1] : List Value).toArray below meth c H locs 0 0 (MQ below (va_Qi (fun r (u : zw_Z) => (zw_k_fi_air fl al K) r u.1 u.2.1 u.2.2.1 u.2.2.2) (fun u t => zw_E (dC, dI) vwCl [(cI, .int), (cJ, .long), (cG, .array .int), (cZ, .boolean)] A (cw cI cJ cG cZ a u.1 u.2.1 u.2.2.1 u.2.2.2) t) A) ([.ref (a 0), .int p0, .int p1] : List Value).toArray s 0 0 A) (F0 m 0 ls []) := by
    refine lv_aload_n hx hb d_SS_support_0 rfl (lv_at hl 0 rfl) ?_
    refine va_get (D := (dC, dI)) (ci := 0) (v := .ref (a 4)) (C := R_SS) (T := T_SS) (N := 9) hx hb ht in_SS hown hK hP 0 rfl rfl 2 (by decide) (ht _ kw_244) (fun _ h9 => h9) rfl d_SS_support_1 ?_
    refine vp_callSi (va_Run.run (va_runV (As := []) (rest := []) ⟨hx, hb, hml, hown, hts⟩ (c_Pl_hasRoom l dC dI cI cJ cG cZ a fi fl ai al _ hw) (cwV 0 hts (zw_goodV kw_386 kw_362 kw_363 kw_3 kw_364) rfl rfl rfl hd_Pl_hasRoom ⟨Nat.le_of_ble_eq_true rfl, Nat.le_of_ble_eq_true rfl⟩) (zw_preV (ci := 3) (q0 := 4) hK hN hP rfl rfl) rfl rfl hl.1 rfl (lv_room (Nat.le_of_ble_eq_true rfl)) d_SS_support_4 ⟨Nat.le_of_ble_eq_true rfl, Nat.le_of_ble_eq_true rfl⟩)) (fun r4 hw => ?_)
    refine lv_if_eq (tgt := 32) hx hb d_SS_support_7 (by decide) (fun c7 => ?_) (fun c7 => ?_)
    · have hw := zw_ite_t c7 hw
      refine lv_iconst (v := (0 : Int32)) hx hb d_SS_support_32 (by decide) ?_
      exact W.zret (v := (0 : Int32)) (ty := .boolean) hx hb hr rfl (fun t ht hW => ⟨⟨(0 : Int32), (fi, fl, ai, al), rfl, ⟨rfl, rfl, hw⟩, by rw [ht]; exact hP, va_K.moved hW.alike hK, hD⟩, hS.F ht⟩) hS.2.2 d_SS_support_33
    · have hw := zw_ite_f c7 hw
      refine lv_iload_n hx hb d_SS_support_10 rfl (lv_at hl 1 rfl) ?_
      refine vp_callSi (va_Run.run (va_runS (As := [.int p0]) (rest := []) ⟨hx, hb, hml, hown, hts⟩ (c_SS_isSupport l p0 _ hw) (va_cwS 1 hts (zw_goodS kw_295 kw_296 kw_1 kw_297) rfl rfl rfl hd_SS_isSupport.2 ⟨Nat.le_of_ble_eq_true rfl, Nat.le_of_ble_eq_true rfl⟩) zw_preS0 rfl rfl hl.1 rfl (lv_room (Nat.le_of_ble_eq_true rfl)) d_SS_support_11 ⟨Nat.le_of_ble_eq_true rfl, Nat.le_of_ble_eq_true rfl⟩)) (fun r11 hw => ?_)
      refine lv_if_eq (tgt := 32) hx hb d_SS_support_14 (by decide) (fun c14 => ?_) (fun c14 => ?_)
      · have hw := zw_ite_t c14 hw
        refine lv_iconst (v := (0 : Int32)) hx hb d_SS_support_32 (by decide) ?_
        exact W.zret (v := (0 : Int32)) (ty := .boolean) hx hb hr rfl (fun t ht hW => ⟨⟨(0 : Int32), (fi, fl, ai, al), rfl, ⟨rfl, rfl, hw⟩, by rw [ht]; exact hP, va_K.moved hW.alike hK, hD⟩, hS.F ht⟩) hS.2.2 d_SS_support_33
      · have hw := zw_ite_f c14 hw
        refine lv_aload_n hx hb d_SS_support_17 rfl (lv_at hl 0 rfl) ?_
        refine va_get (D := (dC, dI)) (ci := 0) (v := .ref (a 4)) (C := R_SS) (T := T_SS) (N := 9) hx hb ht in_SS hown hK hP 0 rfl rfl 2 (by decide) (ht _ kw_244) (fun _ h9 => h9) rfl d_SS_support_18 ?_
        refine vp_callSi (va_Run.run (va_runV (As := []) (rest := []) ⟨hx, hb, hml, hown, hts⟩ (c_Pl_onBits l dC dI cI cJ cG cZ a fi fl ai al _ hw) (cwV 0 hts (zw_goodV kw_392 kw_393 kw_394 kw_3 kw_395) rfl rfl rfl hd_Pl_onBits ⟨Nat.le_of_ble_eq_true rfl, Nat.le_of_ble_eq_true rfl⟩) (zw_preV (ci := 3) (q0 := 4) hK hN hP rfl rfl) rfl rfl hl.1 rfl (lv_room (Nat.le_of_ble_eq_true rfl)) d_SS_support_21 ⟨Nat.le_of_ble_eq_true rfl, Nat.le_of_ble_eq_true rfl⟩)) (fun r21 hw => ?_)
        refine lv_iload_n hx hb d_SS_support_24 rfl (lv_at hl 1 rfl) ?_
        refine vp_callSi (va_Run.run (va_runS (As := [.int r21, .int p0]) (rest := []) ⟨hx, hb, hml, hown, hts⟩ (c_SS_hasBit l r21 p0 _ hw) (va_cwS 2 hts (zw_goodS kw_396 kw_320 kw_1 kw_321) rfl rfl rfl hd_SS_hasBit.2 ⟨Nat.le_of_ble_eq_true rfl, Nat.le_of_ble_eq_true rfl⟩) zw_preS0 rfl rfl hl.1 rfl (lv_room (Nat.le_of_ble_eq_true rfl)) d_SS_support_25 ⟨Nat.le_of_ble_eq_true rfl, Nat.le_of_ble_eq_true rfl⟩)) (fun r25 hw => ?_)
        refine lv_iload_n hx hb d_SS_support_28 rfl (lv_at hl 2 rfl) ?_
        refine lv_icmp_ne (tgt := 34) hx hb d_SS_support_29 (by decide) (fun c29 => ?_) (fun c29 => ?_)
        · have hw := zw_ite_f c29 hw
          refine lv_aload_n hx hb d_SS_support_34 rfl (lv_at hl 0 rfl) ?_
          refine va_get (D := (dC, dI)) (ci := 0) (v := .ref (a 4)) (C := R_SS) (T := T_SS) (N := 9) hx hb ht in_SS hown hK hP 0 rfl rfl 2 (by decide) (ht _ kw_244) (fun _ h9 => h9) rfl d_SS_support_35 ?_
          refine lv_iload_n hx hb d_SS_support_38 rfl (lv_at hl 2 rfl) ?_
          refine zw_jn1_i (P := fun (y47_0 : Int32) => ∀ (H : Heap) (locs : List Loc) (ls : Array Slot), va_P (dC, dI) vwCl (cw cI cJ cG cZ a fi fl ai al) H → va_D A (cw cI cJ cG cZ a fi fl ai al) → va_S A s.heap H locs → lv_has ls 3 [(1, .int p0)] → W p l e (headSpec ws_SS_support ({ frames := 2, cells := 0, slots := 0, locals := 42 })).room s m ([.ref (a 0), .int p0, .int p1] : List Value).toArray below meth c H locs 0 0 (MQ below (va_Qi (fun r (u : zw_Z) => (zw_k_fi_air fl al K) r u.1 u.2.1 u.2.2.1 u.2.2.2) (fun u t => zw_E (dC, dI) vwCl [(cI, .int), (cJ, .long), (cG, .array .int), (cZ, .boolean)] A (cw cI cJ cG cZ a u.1 u.2.1 u.2.2.1 u.2.2.2) t) A) ([.ref (a 0), .int p0, .int p1] : List Value).toArray s 0 0 A) (F0 m 47 ls [.int y47_0, .ref (a 4)])) hw (fun y47_0 hw H locs ls hP hD hS hl => ?_) (fun J47 hj47 hw => ?_)
          · refine lv_iload_n hx hb d_SS_support_47 rfl (lv_at hl 0 rfl) ?_
            refine lv_iconst (v := (0 : Int32)) hx hb d_SS_support_48 (by decide) ?_
            refine zw_cv (va_runV (As := [.int y47_0, .int p0, .int (0 : Int32)]) (rest := []) ⟨hx, hb, hml, hown, hts⟩ (c_Pl_putAct l dC dI cI cJ cG cZ a H.size fi fl ai al y47_0 p0 (0 : Int32) _ hw) (cwV 3 hts (zw_goodV kw_387 kw_379 kw_380 kw_3 kw_381) rfl rfl rfl hd_Pl_putAct ⟨Nat.le_of_ble_eq_true rfl, Nat.le_of_ble_eq_true rfl⟩) (zw_preVw (ci := 3) (q0 := 4) hK hN hP hD rfl rfl) rfl rfl hl.1 rfl (lv_room (Nat.le_of_ble_eq_true rfl)) d_SS_support_49 ⟨Nat.le_of_ble_eq_true rfl, Nat.le_of_ble_eq_true rfl⟩) hD hS hA (fun fi_49 fl_49 ai_49 al_49 H locs hw hP hD hS => ?_)
            obtain ⟨rfl, rfl, hw⟩ := hw
            refine lv_iconst (v := (1 : Int32)) hx hb d_SS_support_52 (by decide) ?_
            exact W.zret (v := (1 : Int32)) (ty := .boolean) hx hb hr rfl (fun t ht hW => ⟨⟨(1 : Int32), (fi_49, fl, ai_49, al), rfl, ⟨rfl, rfl, hw⟩, by rw [ht]; exact hP, va_K.moved hW.alike hK, hD⟩, hS.F ht⟩) hS.2.2 d_SS_support_53
          · refine lv_if_eq (tgt := 46) hx hb d_SS_support_39 (by decide) (fun c39 => ?_) (fun c39 => ?_)
            · have hw := zw_ite_t c39 hw
              refine lv_iconst (v := (3 : Int32)) hx hb d_SS_support_46 (by decide) ?_
              exact (hj47 (3 : Int32) hw) H locs ls hP hD hS (lv_sub hl [1] rfl)
            · have hw := zw_ite_f c39 hw
              refine lv_iconst (v := (2 : Int32)) hx hb d_SS_support_42 (by decide) ?_
              refine lv_goto (tgt := 47) hx hb d_SS_support_43 (by decide) ?_
              exact (hj47 (2 : Int32) hw) H locs ls hP hD hS (lv_sub hl [1] rfl)
        · have hw := zw_ite_t c29 hw
          refine lv_iconst (v := (0 : Int32)) hx hb d_SS_support_32 (by decide) ?_
          exact W.zret (v := (0 : Int32)) (ty := .boolean) hx hb hr rfl (fun t ht hW => ⟨⟨(0 : Int32), (fi, fl, ai, al), rfl, ⟨rfl, rfl, hw⟩, by rw [ht]; exact hP, va_K.moved hW.alike hK, hD⟩, hS.F ht⟩) hS.2.2 d_SS_support_33
  rw [hH, hlo] at key
  exact key
def SS_end_w (fi : Nat → Int32) (fl : Nat → Int64) (ai : Nat → Nat → Int32) (al : Nat → Nat → Int64) (p0 : Int32) (K : Int32 → (Nat → Int32) → Prop) : Prop :=
  if (fi 2) = 0 then (
    K (0 : Int32) fi)
  else (
    Pl_lastDay_w fi fl ai al  (fun (r15 : Int32) =>
    if p0 < r15 then (
      K (0 : Int32) fi)
    else (
      if p0 ≤ (40000 : Int32) then (
        zw_nm (va_up fi 5 p0) (fun (fi_34 : Nat → Int32) =>
        K (1 : Int32) fi_34))
      else (
        K (0 : Int32) fi))))
theorem d_SS_end_0 : decode b_SS_end 0 = .ok (.aload_n 0, 1) := by decide +kernel
theorem d_SS_end_1 : decode b_SS_end 1 = .ok (.getfield 19, 3) := by decide +kernel
theorem d_SS_end_4 : decode b_SS_end 4 = .ok (.getfield 160, 3) := by decide +kernel
theorem d_SS_end_7 : decode b_SS_end 7 = .ok (.ifCond .eq (20), 3) := by decide +kernel
theorem d_SS_end_10 : decode b_SS_end 10 = .ok (.iload_n 1, 1) := by decide +kernel
theorem d_SS_end_11 : decode b_SS_end 11 = .ok (.aload_n 0, 1) := by decide +kernel
theorem d_SS_end_12 : decode b_SS_end 12 = .ok (.getfield 19, 3) := by decide +kernel
theorem d_SS_end_15 : decode b_SS_end 15 = .ok (.invokevirtual 163, 3) := by decide +kernel
theorem d_SS_end_18 : decode b_SS_end 18 = .ok (.if_icmp .lt (9), 3) := by decide +kernel
theorem d_SS_end_21 : decode b_SS_end 21 = .ok (.iload_n 1, 1) := by decide +kernel
theorem d_SS_end_22 : decode b_SS_end 22 = .ok (.ldc 166, 2) := by decide +kernel
theorem d_SS_end_24 : decode b_SS_end 24 = .ok (.if_icmp .le (5), 3) := by decide +kernel
theorem d_SS_end_27 : decode b_SS_end 27 = .ok (.iconst 0, 1) := by decide +kernel
theorem d_SS_end_28 : decode b_SS_end 28 = .ok (.ireturn, 1) := by decide +kernel
theorem d_SS_end_29 : decode b_SS_end 29 = .ok (.aload_n 0, 1) := by decide +kernel
theorem d_SS_end_30 : decode b_SS_end 30 = .ok (.getfield 19, 3) := by decide +kernel
theorem d_SS_end_33 : decode b_SS_end 33 = .ok (.iload_n 1, 1) := by decide +kernel
theorem d_SS_end_34 : decode b_SS_end 34 = .ok (.putfield 167, 3) := by decide +kernel
theorem d_SS_end_37 : decode b_SS_end 37 = .ok (.iconst 1, 1) := by decide +kernel
theorem d_SS_end_38 : decode b_SS_end 38 = .ok (.ireturn, 1) := by decide +kernel
set_option maxHeartbeats 4000000 in
set_option maxRecDepth 100000 in
theorem c_SS_end (l : Launch) (dC : Nat → ClassId) (dI : Nat → Nat → Nat) (cI cJ cG cZ : ClassId) (a : Nat → Nat) (sz : Nat) (fi : Nat → Int32) (fl : Nat → Int64) (ai : Nat → Nat → Int32) (al : Nat → Nat → Int64) (p0 : Int32) (K : Int32 → (Nat → Int32) → Prop) (hw : SS_end_w fi fl ai al p0 K) : Met l y_SS_end ws_SS_end ({ frames := 1, cells := 0, slots := 0, locals := 20 }) (va_Pc [.ref (a 0), .int p0] (zw_Bw (dC, dI) vwCl [(cI, .int), (cJ, .long), (cG, .array .int), (cZ, .boolean)] (cw cI cJ cG cZ a fi fl ai al) sz)) (va_Qi (fun r (u : zw_Z) => (zw_k_fir fl ai al K) r u.1 u.2.1 u.2.2.1 u.2.2.2) (fun u t => zw_E (dC, dI) vwCl [(cI, .int), (cJ, .long), (cG, .array .int), (cZ, .boolean)] (va_A (cw cI cJ cG cZ a fi fl ai al) sz) (cw cI cJ cG cZ a u.1 u.2.1 u.2.2.1 u.2.2.2) t) (va_A (cw cI cJ cG cZ a fi fl ai al) sz)) 0 0 (va_A (cw cI cJ cG cZ a fi fl ai al) sz) := by
  refine Met.ofW (cc := b_SS_end) (maxL := 2) (ret := (Option.some FieldType.boolean)) (by decide) rfl ?_
  intro p e s m args below meth c s₁ B hml hv
  obtain ⟨rfl, hsz, hP, hK, hD0, hN⟩ := hv
  have hx := B.exec
  have hb := B.bytes
  have hr := B.returns
  have hts := atoms_spec (ws := ws_SS_end) B.pre
  have ht : ∀ w ∈ zw_tbl, w.before _ s = true := fun w h => hts w (List.mem_cons_of_mem _ h)
  have hown : s.vm.findClass R_SS = some m.cls := findClass_of_methodNamed B.named
  have hlocks := B.notSynchronized
  subst hsz
  have hD := hD0.self (sz := s.heap.size)
  generalize hAe : va_A (cw cI cJ cG cZ a fi fl ai al) s.heap.size = A at hD ⊢
  have hA : ∀ q : Nat, s.heap.size ≤ q → A q := fun q h => by rw [← hAe]; exact Or.inr h
  have hS : va_S A s.heap s.heap [] := va_S.rf
  have hl := lv_entry ([.ref (a 0), .int p0] : List Value) (n := 2) (Nat.le_of_ble_eq_true rfl)
  rw [lg_entry_eq]
  generalize (lg_sl ([.ref (a 0), .int p0] : List Value) ++ List.replicate (2 - (lg_sl ([.ref (a 0), .int p0] : List Value)).length) Slot.unset).toArray = ls at hl ⊢
  have hl : lv_has ls 2 [(0, .ref (a 0)), (1, .int p0)] := hl
  unfold SS_end_w at hw
  obtain ⟨H, hH⟩ : ∃ H, H = s.heap := ⟨_, rfl⟩
  obtain ⟨locs, hlo⟩ : ∃ q : List Loc, q = [] := ⟨_, rfl⟩
  have hP : va_P (dC, dI) vwCl (cw cI cJ cG cZ a fi fl ai al) H := by rw [hH]; exact hP
  have hS : va_S A s.heap H locs := by rw [hH, hlo]; exact hS
  have key : W p l e (headSpec ws_SS_end ({ frames := 1, cells := 0, slots := 0, locals := 20 })).room s m ([.ref (a 0), .int p0] : List Value).toArray below meth c H locs 0 0 (MQ below (va_Qi (fun r (u : zw_Z) => (zw_k_fir fl ai al K) r u.1 u.2.1 u.2.2.1 u.2.2.2) (fun u t => zw_E (dC, dI) vwCl [(cI, .int), (cJ, .long), (cG, .array .int), (cZ, .boolean)] A (cw cI cJ cG cZ a u.1 u.2.1 u.2.2.1 u.2.2.2) t) A) ([.ref (a 0), .int p0] : List Value).toArray s 0 0 A) (F0 m 0 ls []) := by
    refine lv_aload_n hx hb d_SS_end_0 rfl (lv_at hl 0 rfl) ?_
    refine va_get (D := (dC, dI)) (ci := 0) (v := .ref (a 4)) (C := R_SS) (T := T_SS) (N := 9) hx hb ht in_SS hown hK hP 0 rfl rfl 2 (by decide) (ht _ kw_244) (fun _ h9 => h9) rfl d_SS_end_1 ?_
    refine va_get (D := (dC, dI)) (ci := 3) (v := .int (fi 2)) (C := R_Pl) (T := T_Pl) (N := 11) hx hb ht in_Pl hown hK hP 4 rfl rfl 7 (by decide) (ht _ kw_62) (fun _ h9 => h9) rfl d_SS_end_4 ?_
    refine lv_if_eq (tgt := 27) hx hb d_SS_end_7 (by decide) (fun c7 => ?_) (fun c7 => ?_)
    · have hw := zw_ite_t c7 hw
      refine lv_iconst (v := (0 : Int32)) hx hb d_SS_end_27 (by decide) ?_
      exact W.zret (v := (0 : Int32)) (ty := .boolean) hx hb hr rfl (fun t ht hW => ⟨⟨(0 : Int32), (fi, fl, ai, al), rfl, ⟨rfl, rfl, rfl, hw⟩, by rw [ht]; exact hP, va_K.moved hW.alike hK, hD⟩, hS.F ht⟩) hS.2.2 d_SS_end_28
    · have hw := zw_ite_f c7 hw
      refine lv_iload_n hx hb d_SS_end_10 rfl (lv_at hl 1 rfl) ?_
      refine lv_aload_n hx hb d_SS_end_11 rfl (lv_at hl 0 rfl) ?_
      refine va_get (D := (dC, dI)) (ci := 0) (v := .ref (a 4)) (C := R_SS) (T := T_SS) (N := 9) hx hb ht in_SS hown hK hP 0 rfl rfl 2 (by decide) (ht _ kw_244) (fun _ h9 => h9) rfl d_SS_end_12 ?_
      refine vp_callSi (va_Run.run (va_runV (As := []) (rest := [.int p0]) ⟨hx, hb, hml, hown, hts⟩ (c_Pl_lastDay l dC dI cI cJ cG cZ a fi fl ai al _ hw) (cwV 0 hts (zw_goodV kw_401 kw_341 kw_342 kw_3 kw_343) rfl rfl rfl hd_Pl_lastDay ⟨Nat.le_of_ble_eq_true rfl, Nat.le_of_ble_eq_true rfl⟩) (zw_preV (ci := 3) (q0 := 4) hK hN hP rfl rfl) rfl rfl hl.1 rfl (lv_room (Nat.le_of_ble_eq_true rfl)) d_SS_end_15 ⟨Nat.le_of_ble_eq_true rfl, Nat.le_of_ble_eq_true rfl⟩)) (fun r15 hw => ?_)
      refine lv_icmp_lt (tgt := 27) hx hb d_SS_end_18 (by decide) (fun c18 => ?_) (fun c18 => ?_)
      · have hw := zw_ite_t c18 hw
        refine lv_iconst (v := (0 : Int32)) hx hb d_SS_end_27 (by decide) ?_
        exact W.zret (v := (0 : Int32)) (ty := .boolean) hx hb hr rfl (fun t ht hW => ⟨⟨(0 : Int32), (fi, fl, ai, al), rfl, ⟨rfl, rfl, rfl, hw⟩, by rw [ht]; exact hP, va_K.moved hW.alike hK, hD⟩, hS.F ht⟩) hS.2.2 d_SS_end_28
      · have hw := zw_ite_f c18 hw
        refine lv_iload_n hx hb d_SS_end_21 rfl (lv_at hl 1 rfl) ?_
        refine lv_ldc (v := (40000 : Int32)) hx hb hown (hts (.constant R_SS 166 (40000 : Int32)) (by decide +kernel)) d_SS_end_22 ?_
        refine lv_icmp_le (tgt := 29) hx hb d_SS_end_24 (by decide) (fun c24 => ?_) (fun c24 => ?_)
        · have hw := zw_ite_t c24 hw
          refine lv_aload_n hx hb d_SS_end_29 rfl (lv_at hl 0 rfl) ?_
          refine va_get (D := (dC, dI)) (ci := 0) (v := .ref (a 4)) (C := R_SS) (T := T_SS) (N := 9) hx hb ht in_SS hown hK hP 0 rfl rfl 2 (by decide) (ht _ kw_244) (fun _ h9 => h9) rfl d_SS_end_30 ?_
          refine lv_iload_n hx hb d_SS_end_33 rfl (lv_at hl 1 rfl) ?_
          refine va_put (D := (dC, dI)) (ci := 3) (v := .int p0) (ty := .int) (C := R_Pl) (T := T_Pl) (N := 11) hx hb ht in_Pl t_Pl t_Pl_ok n_Pl hown hK hP hD hS 4 rfl rfl 10 (by decide) (ht _ kw_71) (fun _ h9 => h9) rfl (by decide +kernel) rfl rfl (Nat.le_of_ble_eq_true rfl) d_SS_end_34 (fun H locs hP hD hS => ?_)
          have hP := cwpfi_5 hP
          have hD := cwdfi_5 hD
          obtain ⟨fi_34, efi_34⟩ : ∃ z, z = va_up fi 5 p0 := ⟨_, rfl⟩
          rw [← efi_34] at hP hD
          have hw := zw_nm_x efi_34 hw
          refine lv_iconst (v := (1 : Int32)) hx hb d_SS_end_37 (by decide) ?_
          exact W.zret (v := (1 : Int32)) (ty := .boolean) hx hb hr rfl (fun t ht hW => ⟨⟨(1 : Int32), (fi_34, fl, ai, al), rfl, ⟨rfl, rfl, rfl, hw⟩, by rw [ht]; exact hP, va_K.moved hW.alike hK, hD⟩, hS.F ht⟩) hS.2.2 d_SS_end_38
        · have hw := zw_ite_f c24 hw
          refine lv_iconst (v := (0 : Int32)) hx hb d_SS_end_27 (by decide) ?_
          exact W.zret (v := (0 : Int32)) (ty := .boolean) hx hb hr rfl (fun t ht hW => ⟨⟨(0 : Int32), (fi, fl, ai, al), rfl, ⟨rfl, rfl, rfl, hw⟩, by rw [ht]; exact hP, va_K.moved hW.alike hK, hD⟩, hS.F ht⟩) hS.2.2 d_SS_end_28
  rw [hH, hlo] at key
  exact key
def Pl_hasStage_w (fi : Nat → Int32) (fl : Nat → Int64) (ai : Nat → Nat → Int32) (al : Nat → Nat → Int64) (p0 : Int32) (K : Int32 → Prop) : Prop :=
  SS_within_w p0 (0 : Int32) ((fi 2) - (1 : Int32)) (fun (r8 : Int32) =>
  zw_bool r8 ∧ (K r8))
theorem d_Pl_hasStage_0 : decode b_Pl_hasStage 0 = .ok (.iload_n 1, 1) := by decide +kernel
theorem d_Pl_hasStage_1 : decode b_Pl_hasStage 1 = .ok (.iconst 0, 1) := by decide +kernel
theorem d_Pl_hasStage_2 : decode b_Pl_hasStage 2 = .ok (.aload_n 0, 1) := by decide +kernel
theorem d_Pl_hasStage_3 : decode b_Pl_hasStage 3 = .ok (.getfield 37, 3) := by decide +kernel
theorem d_Pl_hasStage_6 : decode b_Pl_hasStage 6 = .ok (.iconst 1, 1) := by decide +kernel
theorem d_Pl_hasStage_7 : decode b_Pl_hasStage 7 = .ok (.isub, 1) := by decide +kernel
theorem d_Pl_hasStage_8 : decode b_Pl_hasStage 8 = .ok (.invokestatic 40, 3) := by decide +kernel
theorem d_Pl_hasStage_11 : decode b_Pl_hasStage 11 = .ok (.ireturn, 1) := by decide +kernel
set_option maxHeartbeats 4000000 in
set_option maxRecDepth 100000 in
theorem c_Pl_hasStage (l : Launch) (dC : Nat → ClassId) (dI : Nat → Nat → Nat) (cI cJ cG cZ : ClassId) (a : Nat → Nat) (fi : Nat → Int32) (fl : Nat → Int64) (ai : Nat → Nat → Int32) (al : Nat → Nat → Int64) (p0 : Int32) (K : Int32 → Prop) (hw : Pl_hasStage_w fi fl ai al p0 K) : Met l y_Pl_hasStage ws_Pl_hasStage ({ frames := 1, cells := 0, slots := 0, locals := 22 }) (va_Pc [.ref (a 4), .int p0] (zw_B (dC, dI) vwCl [(cI, .int), (cJ, .long), (cG, .array .int), (cZ, .boolean)] (cw cI cJ cG cZ a fi fl ai al))) (vp_Si K) 0 0 (fun _ => False) := by
  refine Met.ofW (cc := b_Pl_hasStage) (maxL := 2) (ret := (Option.some FieldType.boolean)) (by decide) rfl ?_
  intro p e s m args below meth c s₁ B hml hv
  obtain ⟨rfl, hP, hK, hN⟩ := hv
  have hx := B.exec
  have hb := B.bytes
  have hr := B.returns
  have hts := atoms_spec (ws := ws_Pl_hasStage) B.pre
  have ht : ∀ w ∈ zw_tbl, w.before _ s = true := fun w h => hts w (List.mem_cons_of_mem _ h)
  have hown : s.vm.findClass R_Pl = some m.cls := findClass_of_methodNamed B.named
  have hlocks := B.notSynchronized
  have hl := lv_entry ([.ref (a 4), .int p0] : List Value) (n := 2) (Nat.le_of_ble_eq_true rfl)
  rw [lg_entry_eq]
  generalize (lg_sl ([.ref (a 4), .int p0] : List Value) ++ List.replicate (2 - (lg_sl ([.ref (a 4), .int p0] : List Value)).length) Slot.unset).toArray = ls at hl ⊢
  have hl : lv_has ls 2 [(0, .ref (a 4)), (1, .int p0)] := hl
  unfold Pl_hasStage_w at hw
  refine lv_iload_n hx hb d_Pl_hasStage_0 rfl (lv_at hl 1 rfl) ?_
  refine lv_iconst (v := (0 : Int32)) hx hb d_Pl_hasStage_1 (by decide) ?_
  refine lv_aload_n hx hb d_Pl_hasStage_2 rfl (lv_at hl 0 rfl) ?_
  refine va_get (D := (dC, dI)) (ci := 3) (v := .int (fi 2)) (C := R_Pl) (T := T_Pl) (N := 11) hx hb ht in_Pl hown hK hP 4 rfl rfl 7 (by decide) (ht _ kw_59) (fun _ h9 => h9) rfl d_Pl_hasStage_3 ?_
  refine lv_iconst (v := (1 : Int32)) hx hb d_Pl_hasStage_6 (by decide) ?_
  refine lv_isub hx hb d_Pl_hasStage_7 ?_
  refine vp_callSi (va_Run.run (va_runSN (As := [.int p0, .int (0 : Int32), .int ((fi 2) - (1 : Int32))]) (rest := []) ⟨hx, hb, hml, hown, hts⟩ (c_SS_within l p0 (0 : Int32) ((fi 2) - (1 : Int32)) _ hw) ⟨va_cnB 3 hts (zw_goodC kw_280) rfl rfl rfl (hN _ nw_339) (ht _ kw_1) hd_SS_within.2 ⟨Nat.le_of_ble_eq_true rfl, Nat.le_of_ble_eq_true rfl⟩, ht _ kw_279, trivial⟩ zw_preS0 rfl rfl hl.1 rfl (lv_room (Nat.le_of_ble_eq_true rfl)) d_Pl_hasStage_8 ⟨Nat.le_of_ble_eq_true rfl, Nat.le_of_ble_eq_true rfl⟩)) (fun r8 hw => ?_)
  obtain ⟨hz, hw⟩ := hw
  exact W.zret (v := r8) (ty := .boolean) hx hb hr (zw_bool_n hz) (fun t ht hW => ⟨r8, rfl, hw, ht⟩) t_nil d_Pl_hasStage_11
def Pl_stageOf_w (fi : Nat → Int32) (fl : Nat → Int64) (ai : Nat → Nat → Int32) (al : Nat → Nat → Int64) (p0 : Int32) (K : Int32 → Prop) : Prop :=
  Pl_placeOf_w fi fl ai al p0 (fun (r2 : Int32) =>
  if 0 ≤ r2 then (
    vp_in r2 6 ∧ (
    K (ai 11 r2.toNatClampNeg)))
  else (
    K (-1 : Int32)))
theorem d_Pl_stageOf_0 : decode b_Pl_stageOf 0 = .ok (.aload_n 0, 1) := by decide +kernel
theorem d_Pl_stageOf_1 : decode b_Pl_stageOf 1 = .ok (.iload_n 1, 1) := by decide +kernel
theorem d_Pl_stageOf_2 : decode b_Pl_stageOf 2 = .ok (.invokevirtual 67, 3) := by decide +kernel
theorem d_Pl_stageOf_5 : decode b_Pl_stageOf 5 = .ok (.istore_n 2, 1) := by decide +kernel
theorem d_Pl_stageOf_6 : decode b_Pl_stageOf 6 = .ok (.iload_n 2, 1) := by decide +kernel
theorem d_Pl_stageOf_7 : decode b_Pl_stageOf 7 = .ok (.ifCond .ge (7), 3) := by decide +kernel
theorem d_Pl_stageOf_10 : decode b_Pl_stageOf 10 = .ok (.iconst (-1), 1) := by decide +kernel
theorem d_Pl_stageOf_11 : decode b_Pl_stageOf 11 = .ok (.goto (9), 3) := by decide +kernel
theorem d_Pl_stageOf_14 : decode b_Pl_stageOf 14 = .ok (.aload_n 0, 1) := by decide +kernel
theorem d_Pl_stageOf_15 : decode b_Pl_stageOf 15 = .ok (.getfield 30, 3) := by decide +kernel
theorem d_Pl_stageOf_18 : decode b_Pl_stageOf 18 = .ok (.iload_n 2, 1) := by decide +kernel
theorem d_Pl_stageOf_19 : decode b_Pl_stageOf 19 = .ok (.iaload, 1) := by decide +kernel
theorem d_Pl_stageOf_20 : decode b_Pl_stageOf 20 = .ok (.ireturn, 1) := by decide +kernel
set_option maxHeartbeats 4000000 in
set_option maxRecDepth 100000 in
theorem c_Pl_stageOf (l : Launch) (dC : Nat → ClassId) (dI : Nat → Nat → Nat) (cI cJ cG cZ : ClassId) (a : Nat → Nat) (fi : Nat → Int32) (fl : Nat → Int64) (ai : Nat → Nat → Int32) (al : Nat → Nat → Int64) (p0 : Int32) (K : Int32 → Prop) (hw : Pl_stageOf_w fi fl ai al p0 K) : Met l y_Pl_stageOf ws_Pl_stageOf ({ frames := 1, cells := 0, slots := 0, locals := 22 }) (va_Pc [.ref (a 4), .int p0] (zw_B (dC, dI) vwCl [(cI, .int), (cJ, .long), (cG, .array .int), (cZ, .boolean)] (cw cI cJ cG cZ a fi fl ai al))) (vp_Si K) 0 0 (fun _ => False) := by
  refine Met.ofW (cc := b_Pl_stageOf) (maxL := 3) (ret := (Option.some FieldType.int)) (by decide) rfl ?_
  intro p e s m args below meth c s₁ B hml hv
  obtain ⟨rfl, hP, hK, hN⟩ := hv
  have hx := B.exec
  have hb := B.bytes
  have hr := B.returns
  have hts := atoms_spec (ws := ws_Pl_stageOf) B.pre
  have ht : ∀ w ∈ zw_tbl, w.before _ s = true := fun w h => hts w (List.mem_cons_of_mem _ h)
  have hown : s.vm.findClass R_Pl = some m.cls := findClass_of_methodNamed B.named
  have hlocks := B.notSynchronized
  have hl := lv_entry ([.ref (a 4), .int p0] : List Value) (n := 3) (Nat.le_of_ble_eq_true rfl)
  rw [lg_entry_eq]
  generalize (lg_sl ([.ref (a 4), .int p0] : List Value) ++ List.replicate (3 - (lg_sl ([.ref (a 4), .int p0] : List Value)).length) Slot.unset).toArray = ls at hl ⊢
  have hl : lv_has ls 3 [(0, .ref (a 4)), (1, .int p0)] := hl
  unfold Pl_stageOf_w at hw
  refine lv_aload_n hx hb d_Pl_stageOf_0 rfl (lv_at hl 0 rfl) ?_
  refine lv_iload_n hx hb d_Pl_stageOf_1 rfl (lv_at hl 1 rfl) ?_
  refine vp_callSi (va_Run.run (va_runV (As := [.int p0]) (rest := []) ⟨hx, hb, hml, hown, hts⟩ (c_Pl_placeOf l dC dI cI cJ cG cZ a fi fl ai al p0 _ hw) (cwV 1 hts (zw_goodV kw_365 kw_323 kw_324 kw_3 kw_325) rfl rfl rfl hd_Pl_placeOf ⟨Nat.le_of_ble_eq_true rfl, Nat.le_of_ble_eq_true rfl⟩) (zw_preV (ci := 3) (q0 := 4) hK hN hP rfl rfl) rfl rfl hl.1 rfl (lv_room (Nat.le_of_ble_eq_true rfl)) d_Pl_stageOf_2 ⟨Nat.le_of_ble_eq_true rfl, Nat.le_of_ble_eq_true rfl⟩)) (fun r2 hw => ?_)
  refine lv_istore_n (lv' := [(2, .int r2), (0, .ref (a 4)), (1, .int p0)]) hx hb d_Pl_stageOf_5 rfl hl (by decide) rfl (fun ls hl => ?_)
  refine lv_iload_n hx hb d_Pl_stageOf_6 rfl (lv_at hl 0 rfl) ?_
  refine lv_if_ge (tgt := 14) hx hb d_Pl_stageOf_7 (by decide) (fun c7 => ?_) (fun c7 => ?_)
  · have hw := zw_ite_t c7 hw
    refine lv_aload_n hx hb d_Pl_stageOf_14 rfl (lv_at hl 1 rfl) ?_
    refine va_get (D := (dC, dI)) (ci := 3) (v := .ref (a 11)) (C := R_Pl) (T := T_Pl) (N := 11) hx hb ht in_Pl hown hK hP 4 rfl rfl 6 (by decide) (ht _ kw_56) (fun _ h9 => h9) rfl d_Pl_stageOf_15 ?_
    refine lv_iload_n hx hb d_Pl_stageOf_18 rfl (lv_at hl 0 rfl) ?_
    obtain ⟨h19, hw⟩ := hw
    refine va_iald (f := ai 11) hx hb hK hP 11 0 rfl rfl h19 d_Pl_stageOf_19 ?_
    exact W.iret (v := (ai 11 r2.toNatClampNeg)) hx hb hr (fun t ht hW => ⟨(ai 11 r2.toNatClampNeg), rfl, hw, ht⟩) t_nil d_Pl_stageOf_20
  · have hw := zw_ite_f c7 hw
    refine lv_iconst (v := (-1 : Int32)) hx hb d_Pl_stageOf_10 (by decide) ?_
    refine lv_goto (tgt := 20) hx hb d_Pl_stageOf_11 (by decide) ?_
    exact W.iret (v := (-1 : Int32)) hx hb hr (fun t ht hW => ⟨(-1 : Int32), rfl, hw, ht⟩) t_nil d_Pl_stageOf_20
def SS_isThere_w (fi : Nat → Int32) (fl : Nat → Int64) (ai : Nat → Nat → Int32) (al : Nat → Nat → Int64) (p0 : Int32) (p1 : Int32) (K : Int32 → Prop) : Prop :=
  Gi_hasPart_w fi fl ai al p0 (fun (r5 : Int32) =>
  if r5 = 0 then (
    K (0 : Int32))
  else (
    Pl_hasStage_w fi fl ai al p1 (fun (r16 : Int32) =>
    if r16 = 0 then (
      K (0 : Int32))
    else (
      Pl_stageOf_w fi fl ai al p0 (fun (r29 : Int32) =>
      if r29 < 0 then (
        K (0 : Int32))
      else (
        if p1 < r29 then (
          K (0 : Int32))
        else (
          K (1 : Int32))))))))
theorem d_SS_isThere_0 : decode b_SS_isThere 0 = .ok (.aload_n 0, 1) := by decide +kernel
theorem d_SS_isThere_1 : decode b_SS_isThere 1 = .ok (.getfield 55, 3) := by decide +kernel
theorem d_SS_isThere_4 : decode b_SS_isThere 4 = .ok (.iload_n 1, 1) := by decide +kernel
theorem d_SS_isThere_5 : decode b_SS_isThere 5 = .ok (.invokevirtual 77, 3) := by decide +kernel
theorem d_SS_isThere_8 : decode b_SS_isThere 8 = .ok (.ifCond .eq (14), 3) := by decide +kernel
theorem d_SS_isThere_11 : decode b_SS_isThere 11 = .ok (.aload_n 0, 1) := by decide +kernel
theorem d_SS_isThere_12 : decode b_SS_isThere 12 = .ok (.getfield 19, 3) := by decide +kernel
theorem d_SS_isThere_15 : decode b_SS_isThere 15 = .ok (.iload_n 2, 1) := by decide +kernel
theorem d_SS_isThere_16 : decode b_SS_isThere 16 = .ok (.invokevirtual 186, 3) := by decide +kernel
theorem d_SS_isThere_19 : decode b_SS_isThere 19 = .ok (.ifCond .ne (5), 3) := by decide +kernel
theorem d_SS_isThere_22 : decode b_SS_isThere 22 = .ok (.iconst 0, 1) := by decide +kernel
theorem d_SS_isThere_23 : decode b_SS_isThere 23 = .ok (.ireturn, 1) := by decide +kernel
theorem d_SS_isThere_24 : decode b_SS_isThere 24 = .ok (.aload_n 0, 1) := by decide +kernel
theorem d_SS_isThere_25 : decode b_SS_isThere 25 = .ok (.getfield 19, 3) := by decide +kernel
theorem d_SS_isThere_28 : decode b_SS_isThere 28 = .ok (.iload_n 1, 1) := by decide +kernel
theorem d_SS_isThere_29 : decode b_SS_isThere 29 = .ok (.invokevirtual 183, 3) := by decide +kernel
theorem d_SS_isThere_32 : decode b_SS_isThere 32 = .ok (.istore_n 3, 1) := by decide +kernel
theorem d_SS_isThere_33 : decode b_SS_isThere 33 = .ok (.iload_n 3, 1) := by decide +kernel
theorem d_SS_isThere_34 : decode b_SS_isThere 34 = .ok (.ifCond .lt (12), 3) := by decide +kernel
theorem d_SS_isThere_37 : decode b_SS_isThere 37 = .ok (.iload_n 3, 1) := by decide +kernel
theorem d_SS_isThere_38 : decode b_SS_isThere 38 = .ok (.iload_n 2, 1) := by decide +kernel
theorem d_SS_isThere_39 : decode b_SS_isThere 39 = .ok (.if_icmp .gt (7), 3) := by decide +kernel
theorem d_SS_isThere_42 : decode b_SS_isThere 42 = .ok (.iconst 1, 1) := by decide +kernel
theorem d_SS_isThere_43 : decode b_SS_isThere 43 = .ok (.goto (4), 3) := by decide +kernel
theorem d_SS_isThere_46 : decode b_SS_isThere 46 = .ok (.iconst 0, 1) := by decide +kernel
theorem d_SS_isThere_47 : decode b_SS_isThere 47 = .ok (.ireturn, 1) := by decide +kernel
set_option maxHeartbeats 4000000 in
set_option maxRecDepth 100000 in
theorem c_SS_isThere (l : Launch) (dC : Nat → ClassId) (dI : Nat → Nat → Nat) (cI cJ cG cZ : ClassId) (a : Nat → Nat) (fi : Nat → Int32) (fl : Nat → Int64) (ai : Nat → Nat → Int32) (al : Nat → Nat → Int64) (p0 : Int32) (p1 : Int32) (K : Int32 → Prop) (hw : SS_isThere_w fi fl ai al p0 p1 K) : Met l y_SS_isThere ws_SS_isThere ({ frames := 2, cells := 0, slots := 0, locals := 44 }) (va_Pc [.ref (a 0), .int p0, .int p1] (zw_B (dC, dI) vwCl [(cI, .int), (cJ, .long), (cG, .array .int), (cZ, .boolean)] (cw cI cJ cG cZ a fi fl ai al))) (vp_Si K) 0 0 (fun _ => False) := by
  refine Met.ofW (cc := b_SS_isThere) (maxL := 4) (ret := (Option.some FieldType.boolean)) (by decide) rfl ?_
  intro p e s m args below meth c s₁ B hml hv
  obtain ⟨rfl, hP, hK, hN⟩ := hv
  have hx := B.exec
  have hb := B.bytes
  have hr := B.returns
  have hts := atoms_spec (ws := ws_SS_isThere) B.pre
  have ht : ∀ w ∈ zw_tbl, w.before _ s = true := fun w h => hts w (List.mem_cons_of_mem _ h)
  have hown : s.vm.findClass R_SS = some m.cls := findClass_of_methodNamed B.named
  have hlocks := B.notSynchronized
  have hl := lv_entry ([.ref (a 0), .int p0, .int p1] : List Value) (n := 4) (Nat.le_of_ble_eq_true rfl)
  rw [lg_entry_eq]
  generalize (lg_sl ([.ref (a 0), .int p0, .int p1] : List Value) ++ List.replicate (4 - (lg_sl ([.ref (a 0), .int p0, .int p1] : List Value)).length) Slot.unset).toArray = ls at hl ⊢
  have hl : lv_has ls 4 [(0, .ref (a 0)), (1, .int p0), (2, .int p1)] := hl
  unfold SS_isThere_w at hw
  refine lv_aload_n hx hb d_SS_isThere_0 rfl (lv_at hl 0 rfl) ?_
  refine va_get (D := (dC, dI)) (ci := 0) (v := .ref (a 19)) (C := R_SS) (T := T_SS) (N := 9) hx hb ht in_SS hown hK hP 0 rfl rfl 0 (by decide) (ht _ kw_242) (fun _ h9 => h9) rfl d_SS_isThere_1 ?_
  refine lv_iload_n hx hb d_SS_isThere_4 rfl (lv_at hl 1 rfl) ?_
  refine vp_callSi (va_Run.run (va_runV (As := [.int p0]) (rest := []) ⟨hx, hb, hml, hown, hts⟩ (c_Gi_hasPart l dC dI cI cJ cG cZ a fi fl ai al p0 _ hw) (cwV 1 hts (zw_goodV kw_274 kw_275 kw_276 kw_5 kw_277) rfl rfl rfl hd_Gi_hasPart ⟨Nat.le_of_ble_eq_true rfl, Nat.le_of_ble_eq_true rfl⟩) (zw_preV (ci := 2) (q0 := 19) hK hN hP rfl rfl) rfl rfl hl.1 rfl (lv_room (Nat.le_of_ble_eq_true rfl)) d_SS_isThere_5 ⟨Nat.le_of_ble_eq_true rfl, Nat.le_of_ble_eq_true rfl⟩)) (fun r5 hw => ?_)
  refine lv_if_eq (tgt := 22) hx hb d_SS_isThere_8 (by decide) (fun c8 => ?_) (fun c8 => ?_)
  · have hw := zw_ite_t c8 hw
    refine lv_iconst (v := (0 : Int32)) hx hb d_SS_isThere_22 (by decide) ?_
    exact W.zret (v := (0 : Int32)) (ty := .boolean) hx hb hr rfl (fun t ht hW => ⟨(0 : Int32), rfl, hw, ht⟩) t_nil d_SS_isThere_23
  · have hw := zw_ite_f c8 hw
    refine lv_aload_n hx hb d_SS_isThere_11 rfl (lv_at hl 0 rfl) ?_
    refine va_get (D := (dC, dI)) (ci := 0) (v := .ref (a 4)) (C := R_SS) (T := T_SS) (N := 9) hx hb ht in_SS hown hK hP 0 rfl rfl 2 (by decide) (ht _ kw_244) (fun _ h9 => h9) rfl d_SS_isThere_12 ?_
    refine lv_iload_n hx hb d_SS_isThere_15 rfl (lv_at hl 2 rfl) ?_
    refine vp_callSi (va_Run.run (va_runV (As := [.int p1]) (rest := []) ⟨hx, hb, hml, hown, hts⟩ (c_Pl_hasStage l dC dI cI cJ cG cZ a fi fl ai al p1 _ hw) (cwV 1 hts (zw_goodV kw_411 kw_412 kw_413 kw_3 kw_414) rfl rfl rfl hd_Pl_hasStage ⟨Nat.le_of_ble_eq_true rfl, Nat.le_of_ble_eq_true rfl⟩) (zw_preV (ci := 3) (q0 := 4) hK hN hP rfl rfl) rfl rfl hl.1 rfl (lv_room (Nat.le_of_ble_eq_true rfl)) d_SS_isThere_16 ⟨Nat.le_of_ble_eq_true rfl, Nat.le_of_ble_eq_true rfl⟩)) (fun r16 hw => ?_)
    refine lv_if_ne (tgt := 24) hx hb d_SS_isThere_19 (by decide) (fun c19 => ?_) (fun c19 => ?_)
    · have hw := zw_ite_f c19 hw
      refine lv_aload_n hx hb d_SS_isThere_24 rfl (lv_at hl 0 rfl) ?_
      refine va_get (D := (dC, dI)) (ci := 0) (v := .ref (a 4)) (C := R_SS) (T := T_SS) (N := 9) hx hb ht in_SS hown hK hP 0 rfl rfl 2 (by decide) (ht _ kw_244) (fun _ h9 => h9) rfl d_SS_isThere_25 ?_
      refine lv_iload_n hx hb d_SS_isThere_28 rfl (lv_at hl 1 rfl) ?_
      refine vp_callSi (va_Run.run (va_runV (As := [.int p0]) (rest := []) ⟨hx, hb, hml, hown, hts⟩ (c_Pl_stageOf l dC dI cI cJ cG cZ a fi fl ai al p0 _ hw) (cwV 1 hts (zw_goodV kw_415 kw_416 kw_417 kw_3 kw_418) rfl rfl rfl hd_Pl_stageOf ⟨Nat.le_of_ble_eq_true rfl, Nat.le_of_ble_eq_true rfl⟩) (zw_preV (ci := 3) (q0 := 4) hK hN hP rfl rfl) rfl rfl hl.1 rfl (lv_room (Nat.le_of_ble_eq_true rfl)) d_SS_isThere_29 ⟨Nat.le_of_ble_eq_true rfl, Nat.le_of_ble_eq_true rfl⟩)) (fun r29 hw => ?_)
      refine lv_istore_n (lv' := [(3, .int r29), (0, .ref (a 0)), (1, .int p0), (2, .int p1)]) hx hb d_SS_isThere_32 rfl hl (by decide) rfl (fun ls hl => ?_)
      refine lv_iload_n hx hb d_SS_isThere_33 rfl (lv_at hl 0 rfl) ?_
      refine lv_if_lt (tgt := 46) hx hb d_SS_isThere_34 (by decide) (fun c34 => ?_) (fun c34 => ?_)
      · have hw := zw_ite_t c34 hw
        refine lv_iconst (v := (0 : Int32)) hx hb d_SS_isThere_46 (by decide) ?_
        exact W.zret (v := (0 : Int32)) (ty := .boolean) hx hb hr rfl (fun t ht hW => ⟨(0 : Int32), rfl, hw, ht⟩) t_nil d_SS_isThere_47
      · have hw := zw_ite_f c34 hw
        refine lv_iload_n hx hb d_SS_isThere_37 rfl (lv_at hl 0 rfl) ?_
        refine lv_iload_n hx hb d_SS_isThere_38 rfl (lv_at hl 3 rfl) ?_
        refine lv_icmp_gt (tgt := 46) hx hb d_SS_isThere_39 (by decide) (fun c39 => ?_) (fun c39 => ?_)
        · have hw := zw_ite_t c39 hw
          refine lv_iconst (v := (0 : Int32)) hx hb d_SS_isThere_46 (by decide) ?_
          exact W.zret (v := (0 : Int32)) (ty := .boolean) hx hb hr rfl (fun t ht hW => ⟨(0 : Int32), rfl, hw, ht⟩) t_nil d_SS_isThere_47
        · have hw := zw_ite_f c39 hw
          refine lv_iconst (v := (1 : Int32)) hx hb d_SS_isThere_42 (by decide) ?_
          refine lv_goto (tgt := 47) hx hb d_SS_isThere_43 (by decide) ?_
          exact W.zret (v := (1 : Int32)) (ty := .boolean) hx hb hr rfl (fun t ht hW => ⟨(1 : Int32), rfl, hw, ht⟩) t_nil d_SS_isThere_47
    · have hw := zw_ite_t c19 hw
      refine lv_iconst (v := (0 : Int32)) hx hb d_SS_isThere_22 (by decide) ?_
      exact W.zret (v := (0 : Int32)) (ty := .boolean) hx hb hr rfl (fun t ht hW => ⟨(0 : Int32), rfl, hw, ht⟩) t_nil d_SS_isThere_23
def Pl_endDay_w (fi : Nat → Int32) (fl : Nat → Int64) (ai : Nat → Nat → Int32) (al : Nat → Nat → Int64) (K : Int32 → Prop) : Prop :=
  Pl_lastDay_w fi fl ai al  (fun (r1 : Int32) =>
  zw_nm (if r1 < (fi 5) then (fi 5) else r1) (fun (v8 : Int32) =>
  K v8))
theorem d_Pl_endDay_0 : decode b_Pl_endDay 0 = .ok (.aload_n 0, 1) := by decide +kernel
theorem d_Pl_endDay_1 : decode b_Pl_endDay 1 = .ok (.invokevirtual 47, 3) := by decide +kernel
theorem d_Pl_endDay_4 : decode b_Pl_endDay 4 = .ok (.aload_n 0, 1) := by decide +kernel
theorem d_Pl_endDay_5 : decode b_Pl_endDay 5 = .ok (.getfield 33, 3) := by decide +kernel
theorem d_Pl_endDay_8 : decode b_Pl_endDay 8 = .ok (.invokestatic 51, 3) := by decide +kernel
theorem d_Pl_endDay_11 : decode b_Pl_endDay 11 = .ok (.ireturn, 1) := by decide +kernel
set_option maxHeartbeats 4000000 in
set_option maxRecDepth 100000 in
theorem c_Pl_endDay (l : Launch) (dC : Nat → ClassId) (dI : Nat → Nat → Nat) (cI cJ cG cZ : ClassId) (a : Nat → Nat) (fi : Nat → Int32) (fl : Nat → Int64) (ai : Nat → Nat → Int32) (al : Nat → Nat → Int64) (K : Int32 → Prop) (hw : Pl_endDay_w fi fl ai al K) : Met l y_Pl_endDay ws_Pl_endDay ({ frames := 1, cells := 0, slots := 0, locals := 23 }) (va_Pc [.ref (a 4)] (zw_B (dC, dI) vwCl [(cI, .int), (cJ, .long), (cG, .array .int), (cZ, .boolean)] (cw cI cJ cG cZ a fi fl ai al))) (vp_Si K) 0 0 (fun _ => False) := by
  refine Met.ofW (cc := b_Pl_endDay) (maxL := 1) (ret := (Option.some FieldType.int)) (by decide) rfl ?_
  intro p e s m args below meth c s₁ B hml hv
  obtain ⟨rfl, hP, hK, hN⟩ := hv
  have hx := B.exec
  have hb := B.bytes
  have hr := B.returns
  have hts := atoms_spec (ws := ws_Pl_endDay) B.pre
  have ht : ∀ w ∈ zw_tbl, w.before _ s = true := fun w h => hts w (List.mem_cons_of_mem _ h)
  have hown : s.vm.findClass R_Pl = some m.cls := findClass_of_methodNamed B.named
  have hlocks := B.notSynchronized
  have hl := lv_entry ([.ref (a 4)] : List Value) (n := 1) (Nat.le_of_ble_eq_true rfl)
  rw [lg_entry_eq]
  generalize (lg_sl ([.ref (a 4)] : List Value) ++ List.replicate (1 - (lg_sl ([.ref (a 4)] : List Value)).length) Slot.unset).toArray = ls at hl ⊢
  have hl : lv_has ls 1 [(0, .ref (a 4))] := hl
  unfold Pl_endDay_w at hw
  refine lv_aload_n hx hb d_Pl_endDay_0 rfl (lv_at hl 0 rfl) ?_
  refine vp_callSi (va_Run.run (va_runV (As := []) (rest := []) ⟨hx, hb, hml, hown, hts⟩ (c_Pl_lastDay l dC dI cI cJ cG cZ a fi fl ai al _ hw) (cwV 0 hts (zw_goodV kw_340 kw_341 kw_342 kw_3 kw_343) rfl rfl rfl hd_Pl_lastDay ⟨Nat.le_of_ble_eq_true rfl, Nat.le_of_ble_eq_true rfl⟩) (zw_preV (ci := 3) (q0 := 4) hK hN hP rfl rfl) rfl rfl hl.1 rfl (lv_room (Nat.le_of_ble_eq_true rfl)) d_Pl_endDay_1 ⟨Nat.le_of_ble_eq_true rfl, Nat.le_of_ble_eq_true rfl⟩)) (fun r1 hw => ?_)
  refine lv_aload_n hx hb d_Pl_endDay_4 rfl (lv_at hl 0 rfl) ?_
  refine va_get (D := (dC, dI)) (ci := 3) (v := .int (fi 5)) (C := R_Pl) (T := T_Pl) (N := 11) hx hb ht in_Pl hown hK hP 4 rfl rfl 10 (by decide) (ht _ kw_70) (fun _ h9 => h9) rfl d_Pl_endDay_5 ?_
  refine va_mmax hx hb (hml.trans hl.1.symm) hown (ht _ kw_431) (ht _ kw_126) (ht _ kw_6) (ht _ kw_127) (Nat.le_of_ble_eq_true rfl) (Nat.le_of_ble_eq_true rfl) (Nat.le_of_ble_eq_true rfl) (Nat.le_of_ble_eq_true rfl) d_Pl_endDay_8 ?_
  refine lv_topi (fun v8 ev8 => ?_)
  have hw := zw_nm_x ev8 hw
  exact W.iret (v := v8) hx hb hr (fun t ht hW => ⟨v8, rfl, hw, ht⟩) t_nil d_Pl_endDay_11
def Cr_at_w (fi : Nat → Int32) (fl : Nat → Int64) (ai : Nat → Nat → Int32) (al : Nat → Nat → Int64) (p0 : Int32) (K : Int32 → Prop) : Prop :=
  zw_nm (0 : Int32) (fun (v1 : Int32) =>
  zw_nm (0 : Int32) (fun (v3 : Int32) =>
  zw_lp2 (fun L4 (x4_2 : Int32) (x4_3 : Int32) =>
  if (fi 1) ≤ x4_3 then (
    K x4_2)
  else (
    vp_in x4_3 8 ∧ (
    if p0 < (ai 2 x4_3.toNatClampNeg) then (
      K x4_2)
    else (
      vp_in x4_3 8 ∧ (
      zw_nm (ai 3 x4_3.toNatClampNeg) (fun (v28 : Int32) =>
      zw_nm (x4_3 + (1 : Int32)) (fun (v29 : Int32) =>
      L4 v28 v29))))))) v1 v3))
theorem d_Cr_at_0 : decode b_Cr_at 0 = .ok (.iconst 0, 1) := by decide +kernel
theorem d_Cr_at_1 : decode b_Cr_at 1 = .ok (.istore_n 2, 1) := by decide +kernel
theorem d_Cr_at_2 : decode b_Cr_at 2 = .ok (.iconst 0, 1) := by decide +kernel
theorem d_Cr_at_3 : decode b_Cr_at 3 = .ok (.istore_n 3, 1) := by decide +kernel
theorem d_Cr_at_4 : decode b_Cr_at 4 = .ok (.iload_n 3, 1) := by decide +kernel
theorem d_Cr_at_5 : decode b_Cr_at 5 = .ok (.aload_n 0, 1) := by decide +kernel
theorem d_Cr_at_6 : decode b_Cr_at 6 = .ok (.getfield 18, 3) := by decide +kernel
theorem d_Cr_at_9 : decode b_Cr_at 9 = .ok (.if_icmp .ge (26), 3) := by decide +kernel
theorem d_Cr_at_12 : decode b_Cr_at 12 = .ok (.aload_n 0, 1) := by decide +kernel
theorem d_Cr_at_13 : decode b_Cr_at 13 = .ok (.getfield 9, 3) := by decide +kernel
theorem d_Cr_at_16 : decode b_Cr_at 16 = .ok (.iload_n 3, 1) := by decide +kernel
theorem d_Cr_at_17 : decode b_Cr_at 17 = .ok (.iaload, 1) := by decide +kernel
theorem d_Cr_at_18 : decode b_Cr_at 18 = .ok (.iload_n 1, 1) := by decide +kernel
theorem d_Cr_at_19 : decode b_Cr_at 19 = .ok (.if_icmp .gt (16), 3) := by decide +kernel
theorem d_Cr_at_22 : decode b_Cr_at 22 = .ok (.aload_n 0, 1) := by decide +kernel
theorem d_Cr_at_23 : decode b_Cr_at 23 = .ok (.getfield 15, 3) := by decide +kernel
theorem d_Cr_at_26 : decode b_Cr_at 26 = .ok (.iload_n 3, 1) := by decide +kernel
theorem d_Cr_at_27 : decode b_Cr_at 27 = .ok (.iaload, 1) := by decide +kernel
theorem d_Cr_at_28 : decode b_Cr_at 28 = .ok (.istore_n 2, 1) := by decide +kernel
theorem d_Cr_at_29 : decode b_Cr_at 29 = .ok (.iinc 3 (1), 3) := by decide +kernel
theorem d_Cr_at_32 : decode b_Cr_at 32 = .ok (.goto (-28), 3) := by decide +kernel
theorem d_Cr_at_35 : decode b_Cr_at 35 = .ok (.iload_n 2, 1) := by decide +kernel
theorem d_Cr_at_36 : decode b_Cr_at 36 = .ok (.ireturn, 1) := by decide +kernel
set_option maxHeartbeats 4000000 in
set_option maxRecDepth 100000 in
theorem c_Cr_at (l : Launch) (dC : Nat → ClassId) (dI : Nat → Nat → Nat) (cI cJ cG cZ : ClassId) (a : Nat → Nat) (fi : Nat → Int32) (fl : Nat → Int64) (ai : Nat → Nat → Int32) (al : Nat → Nat → Int64) (p0 : Int32) (K : Int32 → Prop) (hw : Cr_at_w fi fl ai al p0 K) : Met l y_Cr_at ws_Cr_at ({ frames := 0, cells := 0, slots := 0, locals := 0 }) (va_Pc [.ref (a 1), .int p0] (zw_B (dC, dI) vwCl [(cI, .int), (cJ, .long), (cG, .array .int), (cZ, .boolean)] (cw cI cJ cG cZ a fi fl ai al))) (vp_Si K) 0 0 (fun _ => False) := by
  refine Met.ofW (cc := b_Cr_at) (maxL := 4) (ret := (Option.some FieldType.int)) (by decide) rfl ?_
  intro p e s m args below meth c s₁ B hml hv
  obtain ⟨rfl, hP, hK, hN⟩ := hv
  have hx := B.exec
  have hb := B.bytes
  have hr := B.returns
  have hts := atoms_spec (ws := ws_Cr_at) B.pre
  have ht : ∀ w ∈ zw_tbl, w.before _ s = true := fun w h => hts w (List.mem_cons_of_mem _ h)
  have hown : s.vm.findClass R_Cr = some m.cls := findClass_of_methodNamed B.named
  have hlocks := B.notSynchronized
  have hl := lv_entry ([.ref (a 1), .int p0] : List Value) (n := 4) (Nat.le_of_ble_eq_true rfl)
  rw [lg_entry_eq]
  generalize (lg_sl ([.ref (a 1), .int p0] : List Value) ++ List.replicate (4 - (lg_sl ([.ref (a 1), .int p0] : List Value)).length) Slot.unset).toArray = ls at hl ⊢
  have hl : lv_has ls 4 [(0, .ref (a 1)), (1, .int p0)] := hl
  unfold Cr_at_w at hw
  refine lv_iconst (v := (0 : Int32)) hx hb d_Cr_at_0 (by decide) ?_
  refine lv_topi (fun v1 ev1 => ?_)
  have hw := zw_nm_x ev1 hw
  refine lv_istore_n (lv' := [(2, .int v1), (0, .ref (a 1)), (1, .int p0)]) hx hb d_Cr_at_1 rfl hl (by decide) rfl (fun ls hl => ?_)
  refine lv_iconst (v := (0 : Int32)) hx hb d_Cr_at_2 (by decide) ?_
  refine lv_topi (fun v3 ev3 => ?_)
  have hw := zw_nm_x ev3 hw
  refine lv_istore_n (lv' := [(3, .int v3), (2, .int v1), (0, .ref (a 1)), (1, .int p0)]) hx hb d_Cr_at_3 rfl hl (by decide) rfl (fun ls hl => ?_)
  refine (zw_lp2_i (P := fun (x4_2 : Int32) (x4_3 : Int32) => ∀ (ls : Array Slot), lv_has ls 4 [(0, .ref (a 1)), (1, .int p0), (2, .int x4_2), (3, .int x4_3)] → W p l e (headSpec ws_Cr_at ({ frames := 0, cells := 0, slots := 0, locals := 0 })).room s m ([.ref (a 1), .int p0] : List Value).toArray below meth c s.heap [] 0 0 (MQ below (vp_Si K) ([.ref (a 1), .int p0] : List Value).toArray s 0 0 (fun _ => False)) (F0 m 4 ls [])) hw (fun L4 x4_2 x4_3 ih4 hw ls hl => ?_)) ls (lv_sub hl [2, 3, 1, 0] rfl)
  refine lv_iload_n hx hb d_Cr_at_4 rfl (lv_at hl 3 rfl) ?_
  refine lv_aload_n hx hb d_Cr_at_5 rfl (lv_at hl 0 rfl) ?_
  refine va_get (D := (dC, dI)) (ci := 1) (v := .int (fi 1)) (C := R_Cr) (T := T_Cr) (N := 3) hx hb ht in_Cr hown hK hP 1 rfl rfl 2 (by decide) (ht _ kw_28) (fun _ h9 => h9) rfl d_Cr_at_6 ?_
  refine lv_icmp_ge (tgt := 35) hx hb d_Cr_at_9 (by decide) (fun c9 => ?_) (fun c9 => ?_)
  · have hw := zw_ite_t c9 hw
    refine lv_iload_n hx hb d_Cr_at_35 rfl (lv_at hl 2 rfl) ?_
    exact W.iret (v := x4_2) hx hb hr (fun t ht hW => ⟨x4_2, rfl, hw, ht⟩) t_nil d_Cr_at_36
  · have hw := zw_ite_f c9 hw
    refine lv_aload_n hx hb d_Cr_at_12 rfl (lv_at hl 0 rfl) ?_
    refine va_get (D := (dC, dI)) (ci := 1) (v := .ref (a 2)) (C := R_Cr) (T := T_Cr) (N := 3) hx hb ht in_Cr hown hK hP 1 rfl rfl 0 (by decide) (ht _ kw_26) (fun _ h9 => h9) rfl d_Cr_at_13 ?_
    refine lv_iload_n hx hb d_Cr_at_16 rfl (lv_at hl 3 rfl) ?_
    obtain ⟨h17, hw⟩ := hw
    refine va_iald (f := ai 2) hx hb hK hP 2 0 rfl rfl h17 d_Cr_at_17 ?_
    refine lv_iload_n hx hb d_Cr_at_18 rfl (lv_at hl 1 rfl) ?_
    refine lv_icmp_gt (tgt := 35) hx hb d_Cr_at_19 (by decide) (fun c19 => ?_) (fun c19 => ?_)
    · have hw := zw_ite_t c19 hw
      refine lv_iload_n hx hb d_Cr_at_35 rfl (lv_at hl 2 rfl) ?_
      exact W.iret (v := x4_2) hx hb hr (fun t ht hW => ⟨x4_2, rfl, hw, ht⟩) t_nil d_Cr_at_36
    · have hw := zw_ite_f c19 hw
      refine lv_aload_n hx hb d_Cr_at_22 rfl (lv_at hl 0 rfl) ?_
      refine va_get (D := (dC, dI)) (ci := 1) (v := .ref (a 3)) (C := R_Cr) (T := T_Cr) (N := 3) hx hb ht in_Cr hown hK hP 1 rfl rfl 1 (by decide) (ht _ kw_27) (fun _ h9 => h9) rfl d_Cr_at_23 ?_
      refine lv_iload_n hx hb d_Cr_at_26 rfl (lv_at hl 3 rfl) ?_
      obtain ⟨h27, hw⟩ := hw
      refine va_iald (f := ai 3) hx hb hK hP 3 0 rfl rfl h27 d_Cr_at_27 ?_
      refine lv_topi (fun v28 ev28 => ?_)
      have hw := zw_nm_x ev28 hw
      refine lv_istore_n (lv' := [(2, .int v28), (0, .ref (a 1)), (1, .int p0), (3, .int x4_3)]) hx hb d_Cr_at_28 rfl hl (by decide) rfl (fun ls hl => ?_)
      obtain ⟨v29, ev29⟩ : ∃ y : Int32, y = x4_3 + (1 : Int32) := ⟨_, rfl⟩
      refine lv_iinc (v := v29) (lv' := [(3, .int v29), (2, .int v28), (0, .ref (a 1)), (1, .int p0)]) hx hb d_Cr_at_29 hl (k := 3) rfl (by rw [ev29]; rfl) (by decide) rfl (fun ls hl => ?_)
      have hw := zw_nm_x ev29 hw
      refine lv_goto (tgt := 4) hx hb d_Cr_at_32 (by decide) ?_
      exact (ih4 v28 v29 hw) ls (lv_sub hl [2, 3, 1, 0] rfl)
def Wa_aim_w (fi : Nat → Int32) (fl : Nat → Int64) (ai : Nat → Nat → Int32) (al : Nat → Nat → Int64) (p0 : Int32) (p1 : Int32) (K : (Nat → Int32) → (Nat → Nat → Int32) → Prop) : Prop :=
  zw_nm (va_up fi 8 p0) (fun (fi_2 : Nat → Int32) =>
  zw_nm (0 : Int32) (fun (v6 : Int32) =>
  zw_lp2 (fun L7 (x7_3 : Int32) (ai7 : Nat → Nat → Int32) =>
  if (fi_2 2) ≤ x7_3 then (
    K fi_2 ai7)
  else (
    vp_in x7_3 12 ∧ (
    Cr_at_w fi_2 fl ai7 al (p1 - (ai7 5 x7_3.toNatClampNeg)) (fun (r38 : Int32) =>
    vp_in x7_3 12 ∧ (zw_nm (va_up ai7 44 (upd (ai7 44) x7_3.toNatClampNeg r38)) (fun (ai_41 : Nat → Nat → Int32) =>
    zw_nm (0 : Int32) (fun (v43 : Int32) =>
    zw_lp2 (fun L45 (x45_4 : Int32) (ai45 : Nat → Nat → Int32) =>
    if x7_3 < x45_4 then (
      zw_nm (x7_3 + (1 : Int32)) (fun (v93 : Int32) =>
      L7 v93 ai45))
    else (
      vp_in x7_3 12 ∧ (
      vp_in x7_3 12 ∧ (
      vp_in x45_4 12 ∧ (
      Cr_at_w fi_2 fl ai45 al ((ai45 5 x7_3.toNatClampNeg) - (ai45 5 x45_4.toNatClampNeg)) (fun (r83 : Int32) =>
      vp_in x45_4 12 ∧ (zw_nm (va_up ai45 (46 + x7_3.toNatClampNeg) (upd (ai45 (46 + x7_3.toNatClampNeg)) x45_4.toNatClampNeg r83)) (fun (ai_86 : Nat → Nat → Int32) =>
      zw_nm (x45_4 + (1 : Int32)) (fun (v87 : Int32) =>
      L45 v87 ai_86))))))))) v43 ai_41))))))) v6 ai))
theorem d_Wa_aim_0 : decode b_Wa_aim 0 = .ok (.aload_n 0, 1) := by decide +kernel
theorem d_Wa_aim_1 : decode b_Wa_aim 1 = .ok (.iload_n 1, 1) := by decide +kernel
theorem d_Wa_aim_2 : decode b_Wa_aim 2 = .ok (.putfield 42, 3) := by decide +kernel
theorem d_Wa_aim_5 : decode b_Wa_aim 5 = .ok (.iconst 0, 1) := by decide +kernel
theorem d_Wa_aim_6 : decode b_Wa_aim 6 = .ok (.istore_n 3, 1) := by decide +kernel
theorem d_Wa_aim_7 : decode b_Wa_aim 7 = .ok (.iload_n 3, 1) := by decide +kernel
theorem d_Wa_aim_8 : decode b_Wa_aim 8 = .ok (.aload_n 0, 1) := by decide +kernel
theorem d_Wa_aim_9 : decode b_Wa_aim 9 = .ok (.getfield 38, 3) := by decide +kernel
theorem d_Wa_aim_12 : decode b_Wa_aim 12 = .ok (.getfield 46, 3) := by decide +kernel
theorem d_Wa_aim_15 : decode b_Wa_aim 15 = .ok (.if_icmp .ge (84), 3) := by decide +kernel
theorem d_Wa_aim_18 : decode b_Wa_aim 18 = .ok (.aload_n 0, 1) := by decide +kernel
theorem d_Wa_aim_19 : decode b_Wa_aim 19 = .ok (.getfield 22, 3) := by decide +kernel
theorem d_Wa_aim_22 : decode b_Wa_aim 22 = .ok (.iload_n 3, 1) := by decide +kernel
theorem d_Wa_aim_23 : decode b_Wa_aim 23 = .ok (.aload_n 0, 1) := by decide +kernel
theorem d_Wa_aim_24 : decode b_Wa_aim 24 = .ok (.getfield 34, 3) := by decide +kernel
theorem d_Wa_aim_27 : decode b_Wa_aim 27 = .ok (.iload_n 2, 1) := by decide +kernel
theorem d_Wa_aim_28 : decode b_Wa_aim 28 = .ok (.aload_n 0, 1) := by decide +kernel
theorem d_Wa_aim_29 : decode b_Wa_aim 29 = .ok (.getfield 38, 3) := by decide +kernel
theorem d_Wa_aim_32 : decode b_Wa_aim 32 = .ok (.getfield 51, 3) := by decide +kernel
theorem d_Wa_aim_35 : decode b_Wa_aim 35 = .ok (.iload_n 3, 1) := by decide +kernel
theorem d_Wa_aim_36 : decode b_Wa_aim 36 = .ok (.iaload, 1) := by decide +kernel
theorem d_Wa_aim_37 : decode b_Wa_aim 37 = .ok (.isub, 1) := by decide +kernel
theorem d_Wa_aim_38 : decode b_Wa_aim 38 = .ok (.invokevirtual 54, 3) := by decide +kernel
theorem d_Wa_aim_41 : decode b_Wa_aim 41 = .ok (.iastore, 1) := by decide +kernel
theorem d_Wa_aim_42 : decode b_Wa_aim 42 = .ok (.iconst 0, 1) := by decide +kernel
theorem d_Wa_aim_43 : decode b_Wa_aim 43 = .ok (.istore 4, 2) := by decide +kernel
theorem d_Wa_aim_45 : decode b_Wa_aim 45 = .ok (.iload 4, 2) := by decide +kernel
theorem d_Wa_aim_47 : decode b_Wa_aim 47 = .ok (.iload_n 3, 1) := by decide +kernel
theorem d_Wa_aim_48 : decode b_Wa_aim 48 = .ok (.if_icmp .gt (45), 3) := by decide +kernel
theorem d_Wa_aim_51 : decode b_Wa_aim 51 = .ok (.aload_n 0, 1) := by decide +kernel
theorem d_Wa_aim_52 : decode b_Wa_aim 52 = .ok (.getfield 27, 3) := by decide +kernel
theorem d_Wa_aim_55 : decode b_Wa_aim 55 = .ok (.iload_n 3, 1) := by decide +kernel
theorem d_Wa_aim_56 : decode b_Wa_aim 56 = .ok (.aaload, 1) := by decide +kernel
theorem d_Wa_aim_57 : decode b_Wa_aim 57 = .ok (.iload 4, 2) := by decide +kernel
theorem d_Wa_aim_59 : decode b_Wa_aim 59 = .ok (.aload_n 0, 1) := by decide +kernel
theorem d_Wa_aim_60 : decode b_Wa_aim 60 = .ok (.getfield 34, 3) := by decide +kernel
theorem d_Wa_aim_63 : decode b_Wa_aim 63 = .ok (.aload_n 0, 1) := by decide +kernel
theorem d_Wa_aim_64 : decode b_Wa_aim 64 = .ok (.getfield 38, 3) := by decide +kernel
theorem d_Wa_aim_67 : decode b_Wa_aim 67 = .ok (.getfield 51, 3) := by decide +kernel
theorem d_Wa_aim_70 : decode b_Wa_aim 70 = .ok (.iload_n 3, 1) := by decide +kernel
theorem d_Wa_aim_71 : decode b_Wa_aim 71 = .ok (.iaload, 1) := by decide +kernel
theorem d_Wa_aim_72 : decode b_Wa_aim 72 = .ok (.aload_n 0, 1) := by decide +kernel
theorem d_Wa_aim_73 : decode b_Wa_aim 73 = .ok (.getfield 38, 3) := by decide +kernel
theorem d_Wa_aim_76 : decode b_Wa_aim 76 = .ok (.getfield 51, 3) := by decide +kernel
theorem d_Wa_aim_79 : decode b_Wa_aim 79 = .ok (.iload 4, 2) := by decide +kernel
theorem d_Wa_aim_81 : decode b_Wa_aim 81 = .ok (.iaload, 1) := by decide +kernel
theorem d_Wa_aim_82 : decode b_Wa_aim 82 = .ok (.isub, 1) := by decide +kernel
theorem d_Wa_aim_83 : decode b_Wa_aim 83 = .ok (.invokevirtual 54, 3) := by decide +kernel
theorem d_Wa_aim_86 : decode b_Wa_aim 86 = .ok (.iastore, 1) := by decide +kernel
theorem d_Wa_aim_87 : decode b_Wa_aim 87 = .ok (.iinc 4 (1), 3) := by decide +kernel
theorem d_Wa_aim_90 : decode b_Wa_aim 90 = .ok (.goto (-45), 3) := by decide +kernel
theorem d_Wa_aim_93 : decode b_Wa_aim 93 = .ok (.iinc 3 (1), 3) := by decide +kernel
theorem d_Wa_aim_96 : decode b_Wa_aim 96 = .ok (.goto (-89), 3) := by decide +kernel
theorem d_Wa_aim_99 : decode b_Wa_aim 99 = .ok (.return_, 1) := by decide +kernel
set_option maxHeartbeats 4000000 in
set_option maxRecDepth 100000 in
theorem c_Wa_aim (l : Launch) (dC : Nat → ClassId) (dI : Nat → Nat → Nat) (cI cJ cG cZ : ClassId) (a : Nat → Nat) (sz : Nat) (fi : Nat → Int32) (fl : Nat → Int64) (ai : Nat → Nat → Int32) (al : Nat → Nat → Int64) (p0 : Int32) (p1 : Int32) (K : (Nat → Int32) → (Nat → Nat → Int32) → Prop) (hw : Wa_aim_w fi fl ai al p0 p1 K) : Met l y_Wa_aim ws_Wa_aim ({ frames := 1, cells := 0, slots := 0, locals := 23 }) (va_Pc [.ref (a 40), .int p0, .int p1] (zw_Bw (dC, dI) vwCl [(cI, .int), (cJ, .long), (cG, .array .int), (cZ, .boolean)] (cw cI cJ cG cZ a fi fl ai al) sz)) (va_Qv (fun (u : zw_Z) => (zw_k_fi_aiv fl al K) u.1 u.2.1 u.2.2.1 u.2.2.2) (fun u t => zw_E (dC, dI) vwCl [(cI, .int), (cJ, .long), (cG, .array .int), (cZ, .boolean)] (va_A (cw cI cJ cG cZ a fi fl ai al) sz) (cw cI cJ cG cZ a u.1 u.2.1 u.2.2.1 u.2.2.2) t) (va_A (cw cI cJ cG cZ a fi fl ai al) sz)) 0 0 (va_A (cw cI cJ cG cZ a fi fl ai al) sz) := by
  refine Met.ofW (cc := b_Wa_aim) (maxL := 5) (ret := (Option.none : Option FieldType)) (by decide) rfl ?_
  intro p e s m args below meth c s₁ B hml hv
  obtain ⟨rfl, hsz, hP, hK, hD0, hN⟩ := hv
  have hx := B.exec
  have hb := B.bytes
  have hr := B.returns
  have hts := atoms_spec (ws := ws_Wa_aim) B.pre
  have ht : ∀ w ∈ zw_tbl, w.before _ s = true := fun w h => hts w (List.mem_cons_of_mem _ h)
  have hown : s.vm.findClass R_Wa = some m.cls := findClass_of_methodNamed B.named
  have hlocks := B.notSynchronized
  subst hsz
  have hD := hD0.self (sz := s.heap.size)
  generalize hAe : va_A (cw cI cJ cG cZ a fi fl ai al) s.heap.size = A at hD ⊢
  have hA : ∀ q : Nat, s.heap.size ≤ q → A q := fun q h => by rw [← hAe]; exact Or.inr h
  have hS : va_S A s.heap s.heap [] := va_S.rf
  have hl := lv_entry ([.ref (a 40), .int p0, .int p1] : List Value) (n := 5) (Nat.le_of_ble_eq_true rfl)
  rw [lg_entry_eq]
  generalize (lg_sl ([.ref (a 40), .int p0, .int p1] : List Value) ++ List.replicate (5 - (lg_sl ([.ref (a 40), .int p0, .int p1] : List Value)).length) Slot.unset).toArray = ls at hl ⊢
  have hl : lv_has ls 5 [(0, .ref (a 40)), (1, .int p0), (2, .int p1)] := hl
  unfold Wa_aim_w at hw
  obtain ⟨H, hH⟩ : ∃ H, H = s.heap := ⟨_, rfl⟩
  obtain ⟨locs, hlo⟩ : ∃ q : List Loc, q = [] := ⟨_, rfl⟩
  have hP : va_P (dC, dI) vwCl (cw cI cJ cG cZ a fi fl ai al) H := by rw [hH]; exact hP
  have hS : va_S A s.heap H locs := by rw [hH, hlo]; exact hS
  have key : W p l e (headSpec ws_Wa_aim ({ frames := 1, cells := 0, slots := 0, locals := 23 })).room s m ([.ref (a 40), .int p0, .int p1] : List Value).toArray below meth c H locs 0 0 (MQ below (va_Qv (fun (u : zw_Z) => (zw_k_fi_aiv fl al K) u.1 u.2.1 u.2.2.1 u.2.2.2) (fun u t => zw_E (dC, dI) vwCl [(cI, .int), (cJ, .long), (cG, .array .int), (cZ, .boolean)] A (cw cI cJ cG cZ a u.1 u.2.1 u.2.2.1 u.2.2.2) t) A) ([.ref (a 40), .int p0, .int p1] : List Value).toArray s 0 0 A) (F0 m 0 ls []) := by
    refine lv_aload_n hx hb d_Wa_aim_0 rfl (lv_at hl 0 rfl) ?_
    refine lv_iload_n hx hb d_Wa_aim_1 rfl (lv_at hl 1 rfl) ?_
    refine va_put (D := (dC, dI)) (ci := 6) (v := .int p0) (ty := .int) (C := R_Wa) (T := T_Wa) (N := 11) hx hb ht in_Wa t_Wa t_Wa_ok n_Wa hown hK hP hD hS 40 rfl rfl 8 (by decide) (ht _ kw_186) (fun _ h9 => h9) rfl (by decide +kernel) rfl rfl (Nat.le_of_ble_eq_true rfl) d_Wa_aim_2 (fun H locs hP hD hS => ?_)
    have hP := cwpfi_8 hP
    have hD := cwdfi_8 hD
    obtain ⟨fi_2, efi_2⟩ : ∃ z, z = va_up fi 8 p0 := ⟨_, rfl⟩
    rw [← efi_2] at hP hD
    have hw := zw_nm_x efi_2 hw
    refine lv_iconst (v := (0 : Int32)) hx hb d_Wa_aim_5 (by decide) ?_
    refine lv_topi (fun v6 ev6 => ?_)
    have hw := zw_nm_x ev6 hw
    refine lv_istore_n (lv' := [(3, .int v6), (0, .ref (a 40)), (1, .int p0), (2, .int p1)]) hx hb d_Wa_aim_6 rfl hl (by decide) rfl (fun ls hl => ?_)
    refine (zw_lp2_i (P := fun (x7_3 : Int32) (ai7 : Nat → Nat → Int32) => ∀ (H : Heap) (locs : List Loc) (ls : Array Slot), va_P (dC, dI) vwCl (cw cI cJ cG cZ a fi_2 fl ai7 al) H → va_D A (cw cI cJ cG cZ a fi_2 fl ai7 al) → va_S A s.heap H locs → lv_has ls 5 [(0, .ref (a 40)), (2, .int p1), (3, .int x7_3)] → W p l e (headSpec ws_Wa_aim ({ frames := 1, cells := 0, slots := 0, locals := 23 })).room s m ([.ref (a 40), .int p0, .int p1] : List Value).toArray below meth c H locs 0 0 (MQ below (va_Qv (fun (u : zw_Z) => (zw_k_fi_aiv fl al K) u.1 u.2.1 u.2.2.1 u.2.2.2) (fun u t => zw_E (dC, dI) vwCl [(cI, .int), (cJ, .long), (cG, .array .int), (cZ, .boolean)] A (cw cI cJ cG cZ a u.1 u.2.1 u.2.2.1 u.2.2.2) t) A) ([.ref (a 40), .int p0, .int p1] : List Value).toArray s 0 0 A) (F0 m 7 ls [])) hw (fun L7 x7_3 ai7 ih7 hw H locs ls hP hD hS hl => ?_)) H locs ls hP hD hS (lv_sub hl [1, 3, 0] rfl)
    refine lv_iload_n hx hb d_Wa_aim_7 rfl (lv_at hl 2 rfl) ?_
    refine lv_aload_n hx hb d_Wa_aim_8 rfl (lv_at hl 0 rfl) ?_
    refine va_get (D := (dC, dI)) (ci := 6) (v := .ref (a 4)) (C := R_Wa) (T := T_Wa) (N := 11) hx hb ht in_Wa hown hK hP 40 rfl rfl 2 (by decide) (ht _ kw_178) (fun _ h9 => h9) rfl d_Wa_aim_9 ?_
    refine va_get (D := (dC, dI)) (ci := 3) (v := .int (fi_2 2)) (C := R_Pl) (T := T_Pl) (N := 11) hx hb ht in_Pl hown hK hP 4 rfl rfl 7 (by decide) (ht _ kw_60) (fun _ h9 => h9) rfl d_Wa_aim_12 ?_
    refine lv_icmp_ge (tgt := 99) hx hb d_Wa_aim_15 (by decide) (fun c15 => ?_) (fun c15 => ?_)
    · have hw := zw_ite_t c15 hw
      exact W.vret hx hb hr (fun t ht hW => ⟨⟨(fi_2, fl, ai7, al), rfl, ⟨rfl, rfl, hw⟩, by rw [ht]; exact hP, va_K.moved hW.alike hK, hD⟩, hS.F ht⟩) hS.2.2 d_Wa_aim_99
    · have hw := zw_ite_f c15 hw
      refine lv_aload_n hx hb d_Wa_aim_18 rfl (lv_at hl 0 rfl) ?_
      refine va_get (D := (dC, dI)) (ci := 6) (v := .ref (a 44)) (C := R_Wa) (T := T_Wa) (N := 11) hx hb ht in_Wa hown hK hP 40 rfl rfl 6 (by decide) (ht _ kw_184) (fun _ h9 => h9) rfl d_Wa_aim_19 ?_
      refine lv_iload_n hx hb d_Wa_aim_22 rfl (lv_at hl 2 rfl) ?_
      refine lv_aload_n hx hb d_Wa_aim_23 rfl (lv_at hl 0 rfl) ?_
      refine va_get (D := (dC, dI)) (ci := 6) (v := .ref (a 1)) (C := R_Wa) (T := T_Wa) (N := 11) hx hb ht in_Wa hown hK hP 40 rfl rfl 1 (by decide) (ht _ kw_177) (fun _ h9 => h9) rfl d_Wa_aim_24 ?_
      refine lv_iload_n hx hb d_Wa_aim_27 rfl (lv_at hl 1 rfl) ?_
      refine lv_aload_n hx hb d_Wa_aim_28 rfl (lv_at hl 0 rfl) ?_
      refine va_get (D := (dC, dI)) (ci := 6) (v := .ref (a 4)) (C := R_Wa) (T := T_Wa) (N := 11) hx hb ht in_Wa hown hK hP 40 rfl rfl 2 (by decide) (ht _ kw_178) (fun _ h9 => h9) rfl d_Wa_aim_29 ?_
      refine va_get (D := (dC, dI)) (ci := 3) (v := .ref (a 5)) (C := R_Pl) (T := T_Pl) (N := 11) hx hb ht in_Pl hown hK hP 4 rfl rfl 0 (by decide) (ht _ kw_44) (fun _ h9 => h9) rfl d_Wa_aim_32 ?_
      refine lv_iload_n hx hb d_Wa_aim_35 rfl (lv_at hl 2 rfl) ?_
      obtain ⟨h36, hw⟩ := hw
      refine va_iald (f := ai7 5) hx hb hK hP 5 0 rfl rfl h36 d_Wa_aim_36 ?_
      refine lv_isub hx hb d_Wa_aim_37 ?_
      refine vp_callSi (va_Run.run (va_runV (As := [.int (p1 - (ai7 5 x7_3.toNatClampNeg))]) (rest := [.int x7_3, .ref (a 44)]) ⟨hx, hb, hml, hown, hts⟩ (c_Cr_at l dC dI cI cJ cG cZ a fi_2 fl ai7 al (p1 - (ai7 5 x7_3.toNatClampNeg)) _ hw) (cwV 1 hts (zw_goodV kw_436 kw_437 kw_438 kw_2 kw_439) rfl rfl rfl hd_Cr_at ⟨Nat.le_of_ble_eq_true rfl, Nat.le_of_ble_eq_true rfl⟩) (zw_preV (ci := 1) (q0 := 1) hK hN hP rfl rfl) rfl rfl hl.1 rfl (lv_room (Nat.le_of_ble_eq_true rfl)) d_Wa_aim_38 ⟨Nat.le_of_ble_eq_true rfl, Nat.le_of_ble_eq_true rfl⟩)) (fun r38 hw => ?_)
      obtain ⟨h41, hw⟩ := hw
      refine va_iast (f := ai7 44) hx hb hK hP hD hS 44 0 rfl rfl h41 d_Wa_aim_41 (fun H locs hP hD hS => ?_)
      have hP := cwpai_44 hP
      have hD := cwdai_44 hD
      obtain ⟨ai_41, eai_41⟩ : ∃ z, z = va_up ai7 44 (upd (ai7 44) x7_3.toNatClampNeg r38) := ⟨_, rfl⟩
      rw [← eai_41] at hP hD
      have hw := zw_nm_x eai_41 hw
      refine lv_iconst (v := (0 : Int32)) hx hb d_Wa_aim_42 (by decide) ?_
      refine lv_topi (fun v43 ev43 => ?_)
      have hw := zw_nm_x ev43 hw
      refine lv_istore (lv' := [(4, .int v43), (0, .ref (a 40)), (2, .int p1), (3, .int x7_3)]) hx hb d_Wa_aim_43 hl (by decide) rfl (fun ls hl => ?_)
      refine (zw_lp2_i (P := fun (x45_4 : Int32) (ai45 : Nat → Nat → Int32) => ∀ (H : Heap) (locs : List Loc) (ls : Array Slot), va_P (dC, dI) vwCl (cw cI cJ cG cZ a fi_2 fl ai45 al) H → va_D A (cw cI cJ cG cZ a fi_2 fl ai45 al) → va_S A s.heap H locs → lv_has ls 5 [(0, .ref (a 40)), (2, .int p1), (3, .int x7_3), (4, .int x45_4)] → W p l e (headSpec ws_Wa_aim ({ frames := 1, cells := 0, slots := 0, locals := 23 })).room s m ([.ref (a 40), .int p0, .int p1] : List Value).toArray below meth c H locs 0 0 (MQ below (va_Qv (fun (u : zw_Z) => (zw_k_fi_aiv fl al K) u.1 u.2.1 u.2.2.1 u.2.2.2) (fun u t => zw_E (dC, dI) vwCl [(cI, .int), (cJ, .long), (cG, .array .int), (cZ, .boolean)] A (cw cI cJ cG cZ a u.1 u.2.1 u.2.2.1 u.2.2.2) t) A) ([.ref (a 40), .int p0, .int p1] : List Value).toArray s 0 0 A) (F0 m 45 ls [])) hw (fun L45 x45_4 ai45 ih45 hw H locs ls hP hD hS hl => ?_)) H locs ls hP hD hS (lv_sub hl [1, 2, 3, 0] rfl)
      refine lv_iload hx hb d_Wa_aim_45 (lv_at hl 3 rfl) ?_
      refine lv_iload_n hx hb d_Wa_aim_47 rfl (lv_at hl 2 rfl) ?_
      refine lv_icmp_gt (tgt := 93) hx hb d_Wa_aim_48 (by decide) (fun c48 => ?_) (fun c48 => ?_)
      · have hw := zw_ite_t c48 hw
        obtain ⟨v93, ev93⟩ : ∃ y : Int32, y = x7_3 + (1 : Int32) := ⟨_, rfl⟩
        refine lv_iinc (v := v93) (lv' := [(3, .int v93), (0, .ref (a 40)), (2, .int p1), (4, .int x45_4)]) hx hb d_Wa_aim_93 hl (k := 2) rfl (by rw [ev93]; rfl) (by decide) rfl (fun ls hl => ?_)
        have hw := zw_nm_x ev93 hw
        refine lv_goto (tgt := 7) hx hb d_Wa_aim_96 (by decide) ?_
        exact (ih7 v93 ai45 hw) H locs ls hP hD hS (lv_sub hl [1, 2, 0] rfl)
      · have hw := zw_ite_f c48 hw
        refine lv_aload_n hx hb d_Wa_aim_51 rfl (lv_at hl 0 rfl) ?_
        refine va_get (D := (dC, dI)) (ci := 6) (v := .ref (a 45)) (C := R_Wa) (T := T_Wa) (N := 11) hx hb ht in_Wa hown hK hP 40 rfl rfl 7 (by decide) (ht _ kw_185) (fun _ h9 => h9) rfl d_Wa_aim_52 ?_
        refine lv_iload_n hx hb d_Wa_aim_55 rfl (lv_at hl 2 rfl) ?_
        obtain ⟨h56, hw⟩ := hw
        refine zw_aald (b := a (46 + x7_3.toNatClampNeg)) hx hb hK hP 45 2 rfl rfl h56 (if_pos (zw_lt h56)) d_Wa_aim_56 ?_
        refine lv_iload hx hb d_Wa_aim_57 (lv_at hl 3 rfl) ?_
        refine lv_aload_n hx hb d_Wa_aim_59 rfl (lv_at hl 0 rfl) ?_
        refine va_get (D := (dC, dI)) (ci := 6) (v := .ref (a 1)) (C := R_Wa) (T := T_Wa) (N := 11) hx hb ht in_Wa hown hK hP 40 rfl rfl 1 (by decide) (ht _ kw_177) (fun _ h9 => h9) rfl d_Wa_aim_60 ?_
        refine lv_aload_n hx hb d_Wa_aim_63 rfl (lv_at hl 0 rfl) ?_
        refine va_get (D := (dC, dI)) (ci := 6) (v := .ref (a 4)) (C := R_Wa) (T := T_Wa) (N := 11) hx hb ht in_Wa hown hK hP 40 rfl rfl 2 (by decide) (ht _ kw_178) (fun _ h9 => h9) rfl d_Wa_aim_64 ?_
        refine va_get (D := (dC, dI)) (ci := 3) (v := .ref (a 5)) (C := R_Pl) (T := T_Pl) (N := 11) hx hb ht in_Pl hown hK hP 4 rfl rfl 0 (by decide) (ht _ kw_44) (fun _ h9 => h9) rfl d_Wa_aim_67 ?_
        refine lv_iload_n hx hb d_Wa_aim_70 rfl (lv_at hl 2 rfl) ?_
        obtain ⟨h71, hw⟩ := hw
        refine va_iald (f := ai45 5) hx hb hK hP 5 0 rfl rfl h71 d_Wa_aim_71 ?_
        refine lv_aload_n hx hb d_Wa_aim_72 rfl (lv_at hl 0 rfl) ?_
        refine va_get (D := (dC, dI)) (ci := 6) (v := .ref (a 4)) (C := R_Wa) (T := T_Wa) (N := 11) hx hb ht in_Wa hown hK hP 40 rfl rfl 2 (by decide) (ht _ kw_178) (fun _ h9 => h9) rfl d_Wa_aim_73 ?_
        refine va_get (D := (dC, dI)) (ci := 3) (v := .ref (a 5)) (C := R_Pl) (T := T_Pl) (N := 11) hx hb ht in_Pl hown hK hP 4 rfl rfl 0 (by decide) (ht _ kw_44) (fun _ h9 => h9) rfl d_Wa_aim_76 ?_
        refine lv_iload hx hb d_Wa_aim_79 (lv_at hl 3 rfl) ?_
        obtain ⟨h81, hw⟩ := hw
        refine va_iald (f := ai45 5) hx hb hK hP 5 0 rfl rfl h81 d_Wa_aim_81 ?_
        refine lv_isub hx hb d_Wa_aim_82 ?_
        refine vp_callSi (va_Run.run (va_runV (As := [.int ((ai45 5 x7_3.toNatClampNeg) - (ai45 5 x45_4.toNatClampNeg))]) (rest := [.int x45_4, .ref (a (46 + x7_3.toNatClampNeg))]) ⟨hx, hb, hml, hown, hts⟩ (c_Cr_at l dC dI cI cJ cG cZ a fi_2 fl ai45 al ((ai45 5 x7_3.toNatClampNeg) - (ai45 5 x45_4.toNatClampNeg)) _ hw) (cwV 1 hts (zw_goodV kw_436 kw_437 kw_438 kw_2 kw_439) rfl rfl rfl hd_Cr_at ⟨Nat.le_of_ble_eq_true rfl, Nat.le_of_ble_eq_true rfl⟩) (zw_preV (ci := 1) (q0 := 1) hK hN hP rfl rfl) rfl rfl hl.1 rfl (lv_room (Nat.le_of_ble_eq_true rfl)) d_Wa_aim_83 ⟨Nat.le_of_ble_eq_true rfl, Nat.le_of_ble_eq_true rfl⟩)) (fun r83 hw => ?_)
        obtain ⟨h86, hw⟩ := hw
        refine va_iast (f := ai45 (46 + x7_3.toNatClampNeg)) hx hb hK hP hD hS (46 + x7_3.toNatClampNeg) 0 (cw_row45 _ _ _ _ _ _ _ _ _ _ (zw_lt h56)) rfl h86 d_Wa_aim_86 (fun H locs hP hD hS => ?_)
        have hP := cwp_row45 (zw_lt h56) hP
        have hD := cwd_row45 (zw_lt h56) hD
        obtain ⟨ai_86, eai_86⟩ : ∃ z, z = va_up ai45 (46 + x7_3.toNatClampNeg) (upd (ai45 (46 + x7_3.toNatClampNeg)) x45_4.toNatClampNeg r83) := ⟨_, rfl⟩
        rw [← eai_86] at hP hD
        have hw := zw_nm_x eai_86 hw
        obtain ⟨v87, ev87⟩ : ∃ y : Int32, y = x45_4 + (1 : Int32) := ⟨_, rfl⟩
        refine lv_iinc (v := v87) (lv' := [(4, .int v87), (0, .ref (a 40)), (2, .int p1), (3, .int x7_3)]) hx hb d_Wa_aim_87 hl (k := 3) rfl (by rw [ev87]; rfl) (by decide) rfl (fun ls hl => ?_)
        have hw := zw_nm_x ev87 hw
        refine lv_goto (tgt := 45) hx hb d_Wa_aim_90 (by decide) ?_
        exact (ih45 v87 ai_86 hw) H locs ls hP hD hS (lv_sub hl [1, 2, 3, 0] rfl)
  rw [hH, hlo] at key
  exact key
