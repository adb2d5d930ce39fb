def Mo_dayOf_w (fi : Nat → Int32) (fl : Nat → Int64) (ai : Nat → Nat → Int32) (al : Nat → Nat → Int64) (p0 : Int32) (K : Int32 → Prop) : Prop :=
  vp_in p0 40 ∧ (
  vp_in (ai 13 p0.toNatClampNeg) 12 ∧ (
  K (ai 9 (ai 13 p0.toNatClampNeg).toNatClampNeg)))
theorem d_Mo_dayOf_0 : decode b_Mo_dayOf 0 = .ok (.aload_n 0, 1) := by decide +kernel
theorem d_Mo_dayOf_1 : decode b_Mo_dayOf 1 = .ok (.getfield 35, 3) := by decide +kernel
theorem d_Mo_dayOf_4 : decode b_Mo_dayOf 4 = .ok (.aload_n 0, 1) := by decide +kernel
theorem d_Mo_dayOf_5 : decode b_Mo_dayOf 5 = .ok (.getfield 47, 3) := by decide +kernel
theorem d_Mo_dayOf_8 : decode b_Mo_dayOf 8 = .ok (.iload_n 1, 1) := by decide +kernel
theorem d_Mo_dayOf_9 : decode b_Mo_dayOf 9 = .ok (.iaload, 1) := by decide +kernel
theorem d_Mo_dayOf_10 : decode b_Mo_dayOf 10 = .ok (.iaload, 1) := by decide +kernel
theorem d_Mo_dayOf_11 : decode b_Mo_dayOf 11 = .ok (.ireturn, 1) := by decide +kernel
set_option maxHeartbeats 4000000 in
set_option maxRecDepth 100000 in
theorem c_Mo_dayOf (l : Launch) (dC : Nat → ClassId) (dI : Nat → Nat → Nat) (cI cJ cG cZ : ClassId) (a : Nat → Nat) (fi : Nat → Int32) (fl : Nat → Int64) (ai : Nat → Nat → Int32) (al : Nat → Nat → Int64) (p0 : Int32) (K : Int32 → Prop) (hw : Mo_dayOf_w fi fl ai al p0 K) : Met l y_Mo_dayOf ws_Mo_dayOf ({ frames := 0, cells := 0, slots := 0, locals := 0 }) (va_Pc [.ref (a 0), .int p0] (zw_B (dC, dI) vwCl [(cI, .int), (cJ, .long), (cG, .array .int), (cZ, .boolean)] (mw cI cJ cG cZ a fi fl ai al))) (vp_Si K) 0 0 (fun _ => False) := by
  refine Met.ofW (cc := b_Mo_dayOf) (maxL := 2) (ret := (Option.some FieldType.int)) (by decide) rfl ?_
  intro p e s m args below meth c s₁ B hml hv
  obtain ⟨rfl, hP, hK, hN⟩ := hv
  have hx := B.exec
  have hb := B.bytes
  have hr := B.returns
  have hts := atoms_spec (ws := ws_Mo_dayOf) B.pre
  have ht : ∀ w ∈ zw_tbl, w.before _ s = true := fun w h => hts w (List.mem_cons_of_mem _ h)
  have hown : s.vm.findClass R_Mo = some m.cls := findClass_of_methodNamed B.named
  have hlocks := B.notSynchronized
  have hl := lv_entry ([.ref (a 0), .int p0] : List Value) (n := 2) (Nat.le_of_ble_eq_true rfl)
  rw [lg_entry_eq]
  generalize (lg_sl ([.ref (a 0), .int p0] : List Value) ++ List.replicate (2 - (lg_sl ([.ref (a 0), .int p0] : List Value)).length) Slot.unset).toArray = ls at hl ⊢
  have hl : lv_has ls 2 [(0, .ref (a 0)), (1, .int p0)] := hl
  unfold Mo_dayOf_w at hw
  refine lv_aload_n hx hb d_Mo_dayOf_0 rfl (lv_at hl 0 rfl) ?_
  refine va_get (D := (dC, dI)) (ci := 7) (v := .ref (a 9)) (C := R_Mo) (T := T_Mo) (N := 36) hx hb ht in_Mo hown hK hP 0 rfl rfl 10 (by decide) (ht _ kw_623) (fun _ h9 => h9) rfl d_Mo_dayOf_1 ?_
  refine lv_aload_n hx hb d_Mo_dayOf_4 rfl (lv_at hl 0 rfl) ?_
  refine va_get (D := (dC, dI)) (ci := 7) (v := .ref (a 13)) (C := R_Mo) (T := T_Mo) (N := 36) hx hb ht in_Mo hown hK hP 0 rfl rfl 15 (by decide) (ht _ kw_628) (fun _ h9 => h9) rfl d_Mo_dayOf_5 ?_
  refine lv_iload_n hx hb d_Mo_dayOf_8 rfl (lv_at hl 1 rfl) ?_
  obtain ⟨h9, hw⟩ := hw
  refine va_iald (f := ai 13) hx hb hK hP 13 0 rfl rfl h9 d_Mo_dayOf_9 ?_
  obtain ⟨h10, hw⟩ := hw
  refine va_iald (f := ai 9) hx hb hK hP 9 0 rfl rfl h10 d_Mo_dayOf_10 ?_
  exact W.iret (v := (ai 9 (ai 13 p0.toNatClampNeg).toNatClampNeg)) hx hb hr (fun t ht hW => ⟨(ai 9 (ai 13 p0.toNatClampNeg).toNatClampNeg), rfl, hw, ht⟩) t_nil d_Mo_dayOf_11
def Mo_rise_w (fi : Nat → Int32) (fl : Nat → Int64) (ai : Nat → Nat → Int32) (al : Nat → Nat → Int64) (p0 : Int32) (p1 : Int32) (p2 : Int32) (K : Int64 → Prop) : Prop :=
  vp_in p0 6 ∧ (
  zw_nm (ai 22 p0.toNatClampNeg) (fun (v6 : Int32) =>
  zw_nm (0 : Int64) (fun (v9 : Int64) =>
  zw_nm (0 : Int32) (fun (v12 : Int32) =>
  zw_lp2 (fun L14 (x14_5 : Int64) (x14_7 : Int32) =>
  if (fi 3) ≤ x14_7 then (
    K x14_5)
  else (
    vp_in x14_7 40 ∧ (
    if p2 < (ai 13 x14_7.toNatClampNeg) then (
      K x14_5)
    else (
      Mo_dayOf_w fi fl ai al x14_7 (fun (r38 : Int32) =>
      zw_nm (p1 - r38) (fun (v42 : Int32) =>
      zw_jn1 (fun (y90_0 : Int64) =>
      vp_in (((6 : Int32) * x14_7) + p0) 240 ∧ (
      zw_nm (x14_5 + ((al 21 (((6 : Int32) * x14_7) + p0).toNatClampNeg) * y90_0)) (fun (v110 : Int64) =>
      zw_nm (x14_7 + (1 : Int32)) (fun (v112 : Int32) =>
      L14 v110 v112)))) (fun J90 =>
      if v6 ≤ x14_7 then (
        Mo_creepAt_w fi fl ai al v42 (fun (r85 : Int32) =>
        J90 ((1000 : Int64) + r85.toInt64)))
      else (
        Mo_creepAt_w fi fl ai al v42 (fun (r54 : Int32) =>
        Mo_dayOf_w fi fl ai al v6 (fun (r61 : Int32) =>
        Mo_dayOf_w fi fl ai al x14_7 (fun (r67 : Int32) =>
        Mo_creepAt_w fi fl ai al (r61 - r67) (fun (r71 : Int32) =>
        J90 ((r54 - r71).toInt64))))))))))))) v9 v12))))
theorem d_Mo_rise_0 : decode b_Mo_rise 0 = .ok (.aload_n 0, 1) := by decide +kernel
theorem d_Mo_rise_1 : decode b_Mo_rise 1 = .ok (.getfield 82, 3) := by decide +kernel
theorem d_Mo_rise_4 : decode b_Mo_rise 4 = .ok (.iload_n 1, 1) := by decide +kernel
theorem d_Mo_rise_5 : decode b_Mo_rise 5 = .ok (.iaload, 1) := by decide +kernel
theorem d_Mo_rise_6 : decode b_Mo_rise 6 = .ok (.istore 4, 2) := by decide +kernel
theorem d_Mo_rise_8 : decode b_Mo_rise 8 = .ok (.lconst 0, 1) := by decide +kernel
theorem d_Mo_rise_9 : decode b_Mo_rise 9 = .ok (.lstore 5, 2) := by decide +kernel
theorem d_Mo_rise_11 : decode b_Mo_rise 11 = .ok (.iconst 0, 1) := by decide +kernel
theorem d_Mo_rise_12 : decode b_Mo_rise 12 = .ok (.istore 7, 2) := by decide +kernel
theorem d_Mo_rise_14 : decode b_Mo_rise 14 = .ok (.iload 7, 2) := by decide +kernel
theorem d_Mo_rise_16 : decode b_Mo_rise 16 = .ok (.aload_n 0, 1) := by decide +kernel
theorem d_Mo_rise_17 : decode b_Mo_rise 17 = .ok (.getfield 133, 3) := by decide +kernel
theorem d_Mo_rise_20 : decode b_Mo_rise 20 = .ok (.if_icmp .ge (98), 3) := by decide +kernel
theorem d_Mo_rise_23 : decode b_Mo_rise 23 = .ok (.aload_n 0, 1) := by decide +kernel
theorem d_Mo_rise_24 : decode b_Mo_rise 24 = .ok (.getfield 47, 3) := by decide +kernel
theorem d_Mo_rise_27 : decode b_Mo_rise 27 = .ok (.iload 7, 2) := by decide +kernel
theorem d_Mo_rise_29 : decode b_Mo_rise 29 = .ok (.iaload, 1) := by decide +kernel
theorem d_Mo_rise_30 : decode b_Mo_rise 30 = .ok (.iload_n 3, 1) := by decide +kernel
theorem d_Mo_rise_31 : decode b_Mo_rise 31 = .ok (.if_icmp .gt (87), 3) := by decide +kernel
theorem d_Mo_rise_34 : decode b_Mo_rise 34 = .ok (.iload_n 2, 1) := by decide +kernel
theorem d_Mo_rise_35 : decode b_Mo_rise 35 = .ok (.aload_n 0, 1) := by decide +kernel
theorem d_Mo_rise_36 : decode b_Mo_rise 36 = .ok (.iload 7, 2) := by decide +kernel
theorem d_Mo_rise_38 : decode b_Mo_rise 38 = .ok (.invokevirtual 172, 3) := by decide +kernel
theorem d_Mo_rise_41 : decode b_Mo_rise 41 = .ok (.isub, 1) := by decide +kernel
theorem d_Mo_rise_42 : decode b_Mo_rise 42 = .ok (.istore 8, 2) := by decide +kernel
theorem d_Mo_rise_44 : decode b_Mo_rise 44 = .ok (.iload 7, 2) := by decide +kernel
theorem d_Mo_rise_46 : decode b_Mo_rise 46 = .ok (.iload 4, 2) := by decide +kernel
theorem d_Mo_rise_48 : decode b_Mo_rise 48 = .ok (.if_icmp .ge (31), 3) := by decide +kernel
theorem d_Mo_rise_51 : decode b_Mo_rise 51 = .ok (.aload_n 0, 1) := by decide +kernel
theorem d_Mo_rise_52 : decode b_Mo_rise 52 = .ok (.iload 8, 2) := by decide +kernel
theorem d_Mo_rise_54 : decode b_Mo_rise 54 = .ok (.invokevirtual 175, 3) := by decide +kernel
theorem d_Mo_rise_57 : decode b_Mo_rise 57 = .ok (.aload_n 0, 1) := by decide +kernel
theorem d_Mo_rise_58 : decode b_Mo_rise 58 = .ok (.aload_n 0, 1) := by decide +kernel
theorem d_Mo_rise_59 : decode b_Mo_rise 59 = .ok (.iload 4, 2) := by decide +kernel
theorem d_Mo_rise_61 : decode b_Mo_rise 61 = .ok (.invokevirtual 172, 3) := by decide +kernel
theorem d_Mo_rise_64 : decode b_Mo_rise 64 = .ok (.aload_n 0, 1) := by decide +kernel
theorem d_Mo_rise_65 : decode b_Mo_rise 65 = .ok (.iload 7, 2) := by decide +kernel
theorem d_Mo_rise_67 : decode b_Mo_rise 67 = .ok (.invokevirtual 172, 3) := by decide +kernel
theorem d_Mo_rise_70 : decode b_Mo_rise 70 = .ok (.isub, 1) := by decide +kernel
theorem d_Mo_rise_71 : decode b_Mo_rise 71 = .ok (.invokevirtual 175, 3) := by decide +kernel
theorem d_Mo_rise_74 : decode b_Mo_rise 74 = .ok (.isub, 1) := by decide +kernel
theorem d_Mo_rise_75 : decode b_Mo_rise 75 = .ok (.i2l, 1) := by decide +kernel
theorem d_Mo_rise_76 : decode b_Mo_rise 76 = .ok (.goto (14), 3) := by decide +kernel
theorem d_Mo_rise_79 : decode b_Mo_rise 79 = .ok (.ldc2_w 114, 3) := by decide +kernel
theorem d_Mo_rise_82 : decode b_Mo_rise 82 = .ok (.aload_n 0, 1) := by decide +kernel
theorem d_Mo_rise_83 : decode b_Mo_rise 83 = .ok (.iload 8, 2) := by decide +kernel
theorem d_Mo_rise_85 : decode b_Mo_rise 85 = .ok (.invokevirtual 175, 3) := by decide +kernel
theorem d_Mo_rise_88 : decode b_Mo_rise 88 = .ok (.i2l, 1) := by decide +kernel
theorem d_Mo_rise_89 : decode b_Mo_rise 89 = .ok (.ladd, 1) := by decide +kernel
theorem d_Mo_rise_90 : decode b_Mo_rise 90 = .ok (.lstore 9, 2) := by decide +kernel
theorem d_Mo_rise_92 : decode b_Mo_rise 92 = .ok (.lload 5, 2) := by decide +kernel
theorem d_Mo_rise_94 : decode b_Mo_rise 94 = .ok (.aload_n 0, 1) := by decide +kernel
theorem d_Mo_rise_95 : decode b_Mo_rise 95 = .ok (.getfield 79, 3) := by decide +kernel
theorem d_Mo_rise_98 : decode b_Mo_rise 98 = .ok (.bipush (6), 2) := by decide +kernel
theorem d_Mo_rise_100 : decode b_Mo_rise 100 = .ok (.iload 7, 2) := by decide +kernel
theorem d_Mo_rise_102 : decode b_Mo_rise 102 = .ok (.imul, 1) := by decide +kernel
theorem d_Mo_rise_103 : decode b_Mo_rise 103 = .ok (.iload_n 1, 1) := by decide +kernel
theorem d_Mo_rise_104 : decode b_Mo_rise 104 = .ok (.iadd, 1) := by decide +kernel
theorem d_Mo_rise_105 : decode b_Mo_rise 105 = .ok (.laload, 1) := by decide +kernel
theorem d_Mo_rise_106 : decode b_Mo_rise 106 = .ok (.lload 9, 2) := by decide +kernel
theorem d_Mo_rise_108 : decode b_Mo_rise 108 = .ok (.lmul, 1) := by decide +kernel
theorem d_Mo_rise_109 : decode b_Mo_rise 109 = .ok (.ladd, 1) := by decide +kernel
theorem d_Mo_rise_110 : decode b_Mo_rise 110 = .ok (.lstore 5, 2) := by decide +kernel
theorem d_Mo_rise_112 : decode b_Mo_rise 112 = .ok (.iinc 7 (1), 3) := by decide +kernel
theorem d_Mo_rise_115 : decode b_Mo_rise 115 = .ok (.goto (-101), 3) := by decide +kernel
theorem d_Mo_rise_118 : decode b_Mo_rise 118 = .ok (.lload 5, 2) := by decide +kernel
theorem d_Mo_rise_120 : decode b_Mo_rise 120 = .ok (.lreturn, 1) := by decide +kernel
set_option maxHeartbeats 4000000 in
set_option maxRecDepth 100000 in
theorem c_Mo_rise (l : Launch) (dC : Nat → ClassId) (dI : Nat → Nat → Nat) (cI cJ cG cZ : ClassId) (a : Nat → Nat) (fi : Nat → Int32) (fl : Nat → Int64) (ai : Nat → Nat → Int32) (al : Nat → Nat → Int64) (p0 : Int32) (p1 : Int32) (p2 : Int32) (K : Int64 → Prop) (hw : Mo_rise_w fi fl ai al p0 p1 p2 K) : Met l y_Mo_rise ws_Mo_rise ({ frames := 1, cells := 0, slots := 0, locals := 23 }) (va_Pc [.ref (a 0), .int p0, .int p1, .int p2] (zw_B (dC, dI) vwCl [(cI, .int), (cJ, .long), (cG, .array .int), (cZ, .boolean)] (mw cI cJ cG cZ a fi fl ai al))) (vp_Sl K) 0 0 (fun _ => False) := by
  refine Met.ofW (cc := b_Mo_rise) (maxL := 11) (ret := (Option.some FieldType.long)) (by decide) rfl ?_
  intro p e s m args below meth c s₁ B hml hv
  obtain ⟨rfl, hP, hK, hN⟩ := hv
  have hx := B.exec
  have hb := B.bytes
  have hr := B.returns
  have hts := atoms_spec (ws := ws_Mo_rise) B.pre
  have ht : ∀ w ∈ zw_tbl, w.before _ s = true := fun w h => hts w (List.mem_cons_of_mem _ h)
  have hown : s.vm.findClass R_Mo = some m.cls := findClass_of_methodNamed B.named
  have hlocks := B.notSynchronized
  have hl := lv_entry ([.ref (a 0), .int p0, .int p1, .int p2] : List Value) (n := 11) (Nat.le_of_ble_eq_true rfl)
  rw [lg_entry_eq]
  generalize (lg_sl ([.ref (a 0), .int p0, .int p1, .int p2] : List Value) ++ List.replicate (11 - (lg_sl ([.ref (a 0), .int p0, .int p1, .int p2] : List Value)).length) Slot.unset).toArray = ls at hl ⊢
  have hl : lv_has ls 11 [(0, .ref (a 0)), (1, .int p0), (2, .int p1), (3, .int p2)] := hl
  unfold Mo_rise_w at hw
  refine lv_aload_n hx hb d_Mo_rise_0 rfl (lv_at hl 0 rfl) ?_
  refine va_get (D := (dC, dI)) (ci := 7) (v := .ref (a 22)) (C := R_Mo) (T := T_Mo) (N := 36) hx hb ht in_Mo hown hK hP 0 rfl rfl 30 (by decide) (ht _ kw_643) (fun _ h9 => h9) rfl d_Mo_rise_1 ?_
  refine lv_iload_n hx hb d_Mo_rise_4 rfl (lv_at hl 1 rfl) ?_
  obtain ⟨h5, hw⟩ := hw
  refine va_iald (f := ai 22) hx hb hK hP 22 0 rfl rfl h5 d_Mo_rise_5 ?_
  refine lv_topi (fun v6 ev6 => ?_)
  have hw := zw_nm_x ev6 hw
  refine lv_istore (lv' := [(4, .int v6), (0, .ref (a 0)), (1, .int p0), (2, .int p1), (3, .int p2)]) hx hb d_Mo_rise_6 hl (by decide) rfl (fun ls hl => ?_)
  refine lv_lconst (v := (0 : Int64)) hx hb d_Mo_rise_8 (by decide) ?_
  refine lv_topl (fun v9 ev9 => ?_)
  have hw := zw_nm_x ev9 hw
  refine lv_lstore (lv' := [(5, .long v9), (4, .int v6), (0, .ref (a 0)), (1, .int p0), (2, .int p1), (3, .int p2)]) hx hb d_Mo_rise_9 hl (by decide) rfl (fun ls hl => ?_)
  refine lv_iconst (v := (0 : Int32)) hx hb d_Mo_rise_11 (by decide) ?_
  refine lv_topi (fun v12 ev12 => ?_)
  have hw := zw_nm_x ev12 hw
  refine lv_istore (lv' := [(7, .int v12), (5, .long v9), (4, .int v6), (0, .ref (a 0)), (1, .int p0), (2, .int p1), (3, .int p2)]) hx hb d_Mo_rise_12 hl (by decide) rfl (fun ls hl => ?_)
  refine (zw_lp2_i (P := fun (x14_5 : Int64) (x14_7 : Int32) => ∀ (ls : Array Slot), lv_has ls 11 [(0, .ref (a 0)), (1, .int p0), (2, .int p1), (3, .int p2), (4, .int v6), (5, .long x14_5), (7, .int x14_7)] → W p l e (headSpec ws_Mo_rise ({ frames := 1, cells := 0, slots := 0, locals := 23 })).room s m ([.ref (a 0), .int p0, .int p1, .int p2] : List Value).toArray below meth c s.heap [] 0 0 (MQ below (vp_Sl K) ([.ref (a 0), .int p0, .int p1, .int p2] : List Value).toArray s 0 0 (fun _ => False)) (F0 m 14 ls [])) hw (fun L14 x14_5 x14_7 ih14 hw ls hl => ?_)) ls (lv_sub hl [3, 4, 5, 6, 2, 1, 0] rfl)
  refine lv_iload hx hb d_Mo_rise_14 (lv_at hl 6 rfl) ?_
  refine lv_aload_n hx hb d_Mo_rise_16 rfl (lv_at hl 0 rfl) ?_
  refine va_get (D := (dC, dI)) (ci := 7) (v := .int (fi 3)) (C := R_Mo) (T := T_Mo) (N := 36) hx hb ht in_Mo hown hK hP 0 rfl rfl 16 (by decide) (ht _ kw_629) (fun _ h9 => h9) rfl d_Mo_rise_17 ?_
  refine lv_icmp_ge (tgt := 118) hx hb d_Mo_rise_20 (by decide) (fun c20 => ?_) (fun c20 => ?_)
  · have hw := zw_ite_t c20 hw
    refine lv_lload hx hb d_Mo_rise_118 (lv_at hl 5 rfl) ?_
    exact W.lret (v := x14_5) hx hb hr (fun t ht hW => ⟨x14_5, rfl, hw, ht⟩) t_nil d_Mo_rise_120
  · have hw := zw_ite_f c20 hw
    refine lv_aload_n hx hb d_Mo_rise_23 rfl (lv_at hl 0 rfl) ?_
    refine va_get (D := (dC, dI)) (ci := 7) (v := .ref (a 13)) (C := R_Mo) (T := T_Mo) (N := 36) hx hb ht in_Mo hown hK hP 0 rfl rfl 15 (by decide) (ht _ kw_628) (fun _ h9 => h9) rfl d_Mo_rise_24 ?_
    refine lv_iload hx hb d_Mo_rise_27 (lv_at hl 6 rfl) ?_
    obtain ⟨h29, hw⟩ := hw
    refine va_iald (f := ai 13) hx hb hK hP 13 0 rfl rfl h29 d_Mo_rise_29 ?_
    refine lv_iload_n hx hb d_Mo_rise_30 rfl (lv_at hl 3 rfl) ?_
    refine lv_icmp_gt (tgt := 118) hx hb d_Mo_rise_31 (by decide) (fun c31 => ?_) (fun c31 => ?_)
    · have hw := zw_ite_t c31 hw
      refine lv_lload hx hb d_Mo_rise_118 (lv_at hl 5 rfl) ?_
      exact W.lret (v := x14_5) hx hb hr (fun t ht hW => ⟨x14_5, rfl, hw, ht⟩) t_nil d_Mo_rise_120
    · have hw := zw_ite_f c31 hw
      refine lv_iload_n hx hb d_Mo_rise_34 rfl (lv_at hl 2 rfl) ?_
      refine lv_aload_n hx hb d_Mo_rise_35 rfl (lv_at hl 0 rfl) ?_
      refine lv_iload hx hb d_Mo_rise_36 (lv_at hl 6 rfl) ?_
      refine vp_callSi (va_Run.run (va_runV (As := [.int x14_7]) (rest := [.int p1]) ⟨hx, hb, hml, hown, hts⟩ (c_Mo_dayOf l dC dI cI cJ cG cZ a fi fl ai al x14_7 _ hw) (cwV 1 hts (zw_goodV kw_861 kw_863 kw_s35 kw_9 kw_864) rfl rfl rfl hd_Mo_dayOf ⟨Nat.le_of_ble_eq_true rfl, Nat.le_of_ble_eq_true rfl⟩) (zw_preV (ci := 7) (q0 := 0) hK hN hP rfl rfl) rfl rfl hl.1 rfl (lv_room (Nat.le_of_ble_eq_true rfl)) d_Mo_rise_38 ⟨Nat.le_of_ble_eq_true rfl, Nat.le_of_ble_eq_true rfl⟩)) (fun r38 hw => ?_)
      refine lv_isub hx hb d_Mo_rise_41 ?_
      refine lv_topi (fun v42 ev42 => ?_)
      have hw := zw_nm_x ev42 hw
      refine lv_istore (lv' := [(8, .int v42), (0, .ref (a 0)), (1, .int p0), (2, .int p1), (3, .int p2), (4, .int v6), (5, .long x14_5), (7, .int x14_7)]) hx hb d_Mo_rise_42 hl (by decide) rfl (fun ls hl => ?_)
      refine lv_iload hx hb d_Mo_rise_44 (lv_at hl 7 rfl) ?_
      refine lv_iload hx hb d_Mo_rise_46 (lv_at hl 5 rfl) ?_
      refine zw_jn1_i (P := fun (y90_0 : Int64) => ∀ (ls : Array Slot), lv_has ls 11 [(0, .ref (a 0)), (1, .int p0), (2, .int p1), (3, .int p2), (4, .int v6), (5, .long x14_5), (7, .int x14_7)] → W p l e (headSpec ws_Mo_rise ({ frames := 1, cells := 0, slots := 0, locals := 23 })).room s m ([.ref (a 0), .int p0, .int p1, .int p2] : List Value).toArray below meth c s.heap [] 0 0 (MQ below (vp_Sl K) ([.ref (a 0), .int p0, .int p1, .int p2] : List Value).toArray s 0 0 (fun _ => False)) (F0 m 90 ls [.long y90_0])) hw (fun y90_0 hw ls hl => ?_) (fun J90 hj90 hw => ?_)
      · refine lv_lstore (lv' := [(9, .long y90_0), (0, .ref (a 0)), (1, .int p0), (2, .int p1), (3, .int p2), (4, .int v6), (5, .long x14_5), (7, .int x14_7)]) hx hb d_Mo_rise_90 hl (by decide) rfl (fun ls hl => ?_)
        refine lv_lload hx hb d_Mo_rise_92 (lv_at hl 6 rfl) ?_
        refine lv_aload_n hx hb d_Mo_rise_94 rfl (lv_at hl 1 rfl) ?_
        refine va_get (D := (dC, dI)) (ci := 7) (v := .ref (a 21)) (C := R_Mo) (T := T_Mo) (N := 36) hx hb ht in_Mo hown hK hP 0 rfl rfl 29 (by decide) (ht _ kw_642) (fun _ h9 => h9) rfl d_Mo_rise_95 ?_
        refine lv_bipush (v := (6 : Int32)) hx hb d_Mo_rise_98 (by decide) ?_
        refine lv_iload hx hb d_Mo_rise_100 (lv_at hl 7 rfl) ?_
        refine lv_imul hx hb d_Mo_rise_102 ?_
        refine lv_iload_n hx hb d_Mo_rise_103 rfl (lv_at hl 2 rfl) ?_
        refine lv_iadd hx hb d_Mo_rise_104 ?_
        obtain ⟨h105, hw⟩ := hw
        refine va_lald (f := al 21) hx hb hK hP 21 1 rfl rfl h105 d_Mo_rise_105 ?_
        refine lv_lload hx hb d_Mo_rise_106 (lv_at hl 0 rfl) ?_
        refine lv_lmul hx hb d_Mo_rise_108 ?_
        refine lv_ladd hx hb d_Mo_rise_109 ?_
        refine lv_topl (fun v110 ev110 => ?_)
        have hw := zw_nm_x ev110 hw
        refine lv_lstore (lv' := [(5, .long v110), (9, .long y90_0), (0, .ref (a 0)), (1, .int p0), (2, .int p1), (3, .int p2), (4, .int v6), (7, .int x14_7)]) hx hb d_Mo_rise_110 hl (by decide) rfl (fun ls hl => ?_)
        obtain ⟨v112, ev112⟩ : ∃ y : Int32, y = x14_7 + (1 : Int32) := ⟨_, rfl⟩
        refine lv_iinc (v := v112) (lv' := [(7, .int v112), (5, .long v110), (9, .long y90_0), (0, .ref (a 0)), (1, .int p0), (2, .int p1), (3, .int p2), (4, .int v6)]) hx hb d_Mo_rise_112 hl (k := 7) rfl (by rw [ev112]; rfl) (by decide) rfl (fun ls hl => ?_)
        have hw := zw_nm_x ev112 hw
        refine lv_goto (tgt := 14) hx hb d_Mo_rise_115 (by decide) ?_
        exact (ih14 v110 v112 hw) ls (lv_sub hl [3, 4, 5, 6, 7, 1, 0] rfl)
      · refine lv_icmp_ge (tgt := 79) hx hb d_Mo_rise_48 (by decide) (fun c48 => ?_) (fun c48 => ?_)
        · have hw := zw_ite_t c48 hw
          refine lv_ldc2 (v := (1000 : Int64)) hx hb hown (hts (.constantLong R_Mo 114 (1000 : Int64)) (by decide +kernel)) d_Mo_rise_79 ?_
          refine lv_aload_n hx hb d_Mo_rise_82 rfl (lv_at hl 1 rfl) ?_
          refine lv_iload hx hb d_Mo_rise_83 (lv_at hl 0 rfl) ?_
          refine vp_callSi (va_Run.run (va_runV (As := [.int v42]) (rest := [.long (1000 : Int64)]) ⟨hx, hb, hml, hown, hts⟩ (c_Mo_creepAt l dC dI cI cJ cG cZ a fi fl ai al v42 _ hw) (cwV 1 hts (zw_goodV kw_865 kw_867 kw_s36 kw_9 kw_868) rfl rfl rfl hd_Mo_creepAt ⟨Nat.le_of_ble_eq_true rfl, Nat.le_of_ble_eq_true rfl⟩) (zw_preV (ci := 7) (q0 := 0) hK hN hP rfl rfl) rfl rfl hl.1 rfl (lv_room (Nat.le_of_ble_eq_true rfl)) d_Mo_rise_85 ⟨Nat.le_of_ble_eq_true rfl, Nat.le_of_ble_eq_true rfl⟩)) (fun r85 hw => ?_)
          refine lv_i2l hx hb d_Mo_rise_88 rfl ?_
          refine lv_ladd hx hb d_Mo_rise_89 ?_
          exact (hj90 ((1000 : Int64) + r85.toInt64) hw) ls (lv_sub hl [1, 2, 3, 4, 5, 6, 7] rfl)
        · have hw := zw_ite_f c48 hw
          refine lv_aload_n hx hb d_Mo_rise_51 rfl (lv_at hl 1 rfl) ?_
          refine lv_iload hx hb d_Mo_rise_52 (lv_at hl 0 rfl) ?_
          refine vp_callSi (va_Run.run (va_runV (As := [.int v42]) (rest := []) ⟨hx, hb, hml, hown, hts⟩ (c_Mo_creepAt l dC dI cI cJ cG cZ a fi fl ai al v42 _ hw) (cwV 1 hts (zw_goodV kw_865 kw_867 kw_s36 kw_9 kw_868) rfl rfl rfl hd_Mo_creepAt ⟨Nat.le_of_ble_eq_true rfl, Nat.le_of_ble_eq_true rfl⟩) (zw_preV (ci := 7) (q0 := 0) hK hN hP rfl rfl) rfl rfl hl.1 rfl (lv_room (Nat.le_of_ble_eq_true rfl)) d_Mo_rise_54 ⟨Nat.le_of_ble_eq_true rfl, Nat.le_of_ble_eq_true rfl⟩)) (fun r54 hw => ?_)
          refine lv_aload_n hx hb d_Mo_rise_57 rfl (lv_at hl 1 rfl) ?_
          refine lv_aload_n hx hb d_Mo_rise_58 rfl (lv_at hl 1 rfl) ?_
          refine lv_iload hx hb d_Mo_rise_59 (lv_at hl 5 rfl) ?_
          refine vp_callSi (va_Run.run (va_runV (As := [.int v6]) (rest := [.ref (a 0), .int r54]) ⟨hx, hb, hml, hown, hts⟩ (c_Mo_dayOf l dC dI cI cJ cG cZ a fi fl ai al v6 _ hw) (cwV 1 hts (zw_goodV kw_861 kw_863 kw_s35 kw_9 kw_864) rfl rfl rfl hd_Mo_dayOf ⟨Nat.le_of_ble_eq_true rfl, Nat.le_of_ble_eq_true rfl⟩) (zw_preV (ci := 7) (q0 := 0) hK hN hP rfl rfl) rfl rfl hl.1 rfl (lv_room (Nat.le_of_ble_eq_true rfl)) d_Mo_rise_61 ⟨Nat.le_of_ble_eq_true rfl, Nat.le_of_ble_eq_true rfl⟩)) (fun r61 hw => ?_)
          refine lv_aload_n hx hb d_Mo_rise_64 rfl (lv_at hl 1 rfl) ?_
          refine lv_iload hx hb d_Mo_rise_65 (lv_at hl 7 rfl) ?_
          refine vp_callSi (va_Run.run (va_runV (As := [.int x14_7]) (rest := [.int r61, .ref (a 0), .int r54]) ⟨hx, hb, hml, hown, hts⟩ (c_Mo_dayOf l dC dI cI cJ cG cZ a fi fl ai al x14_7 _ hw) (cwV 1 hts (zw_goodV kw_861 kw_863 kw_s35 kw_9 kw_864) rfl rfl rfl hd_Mo_dayOf ⟨Nat.le_of_ble_eq_true rfl, Nat.le_of_ble_eq_true rfl⟩) (zw_preV (ci := 7) (q0 := 0) hK hN hP rfl rfl) rfl rfl hl.1 rfl (lv_room (Nat.le_of_ble_eq_true rfl)) d_Mo_rise_67 ⟨Nat.le_of_ble_eq_true rfl, Nat.le_of_ble_eq_true rfl⟩)) (fun r67 hw => ?_)
          refine lv_isub hx hb d_Mo_rise_70 ?_
          refine vp_callSi (va_Run.run (va_runV (As := [.int (r61 - r67)]) (rest := [.int r54]) ⟨hx, hb, hml, hown, hts⟩ (c_Mo_creepAt l dC dI cI cJ cG cZ a fi fl ai al (r61 - r67) _ hw) (cwV 1 hts (zw_goodV kw_865 kw_867 kw_s36 kw_9 kw_868) rfl rfl rfl hd_Mo_creepAt ⟨Nat.le_of_ble_eq_true rfl, Nat.le_of_ble_eq_true rfl⟩) (zw_preV (ci := 7) (q0 := 0) hK hN hP rfl rfl) rfl rfl hl.1 rfl (lv_room (Nat.le_of_ble_eq_true rfl)) d_Mo_rise_71 ⟨Nat.le_of_ble_eq_true rfl, Nat.le_of_ble_eq_true rfl⟩)) (fun r71 hw => ?_)
          refine lv_isub hx hb d_Mo_rise_74 ?_
          refine lv_i2l hx hb d_Mo_rise_75 rfl ?_
          refine lv_goto (tgt := 90) hx hb d_Mo_rise_76 (by decide) ?_
          exact (hj90 ((r54 - r71).toInt64) hw) ls (lv_sub hl [1, 2, 3, 4, 5, 6, 7] rfl)
def Mo_camber_w (fi : Nat → Int32) (fl : Nat → Int64) (ai : Nat → Nat → Int32) (al : Nat → Nat → Int64) (p0 : Int32) (K : Int64 → Prop) : Prop :=
  Mo_endDay_w fi fl ai al  (fun (r3 : Int32) =>
  Mo_rise_w fi fl ai al p0 r3 (11 : Int32) (fun (r8 : Int64) =>
  K (-r8)))
theorem d_Mo_camber_0 : decode b_Mo_camber 0 = .ok (.aload_n 0, 1) := by decide +kernel
theorem d_Mo_camber_1 : decode b_Mo_camber 1 = .ok (.iload_n 1, 1) := by decide +kernel
theorem d_Mo_camber_2 : decode b_Mo_camber 2 = .ok (.aload_n 0, 1) := by decide +kernel
theorem d_Mo_camber_3 : decode b_Mo_camber 3 = .ok (.invokevirtual 178, 3) := by decide +kernel
theorem d_Mo_camber_6 : decode b_Mo_camber 6 = .ok (.bipush (11), 2) := by decide +kernel
theorem d_Mo_camber_8 : decode b_Mo_camber 8 = .ok (.invokevirtual 181, 3) := by decide +kernel
theorem d_Mo_camber_11 : decode b_Mo_camber 11 = .ok (.lneg, 1) := by decide +kernel
theorem d_Mo_camber_12 : decode b_Mo_camber 12 = .ok (.lreturn, 1) := by decide +kernel
set_option maxHeartbeats 4000000 in
set_option maxRecDepth 100000 in
theorem c_Mo_camber (l : Launch) (dC : Nat → ClassId) (dI : Nat → Nat → Nat) (cI cJ cG cZ : ClassId) (a : Nat → Nat) (fi : Nat → Int32) (fl : Nat → Int64) (ai : Nat → Nat → Int32) (al : Nat → Nat → Int64) (p0 : Int32) (K : Int64 → Prop) (hw : Mo_camber_w fi fl ai al p0 K) : Met l y_Mo_camber ws_Mo_camber ({ frames := 2, cells := 0, slots := 0, locals := 53 }) (va_Pc [.ref (a 0), .int p0] (zw_B (dC, dI) vwCl [(cI, .int), (cJ, .long), (cG, .array .int), (cZ, .boolean)] (mw cI cJ cG cZ a fi fl ai al))) (vp_Sl K) 0 0 (fun _ => False) := by
  refine Met.ofW (cc := b_Mo_camber) (maxL := 2) (ret := (Option.some FieldType.long)) (by decide) rfl ?_
  intro p e s m args below meth c s₁ B hml hv
  obtain ⟨rfl, hP, hK, hN⟩ := hv
  have hx := B.exec
  have hb := B.bytes
  have hr := B.returns
  have hts := atoms_spec (ws := ws_Mo_camber) B.pre
  have ht : ∀ w ∈ zw_tbl, w.before _ s = true := fun w h => hts w (List.mem_cons_of_mem _ h)
  have hown : s.vm.findClass R_Mo = some m.cls := findClass_of_methodNamed B.named
  have hlocks := B.notSynchronized
  have hl := lv_entry ([.ref (a 0), .int p0] : List Value) (n := 2) (Nat.le_of_ble_eq_true rfl)
  rw [lg_entry_eq]
  generalize (lg_sl ([.ref (a 0), .int p0] : List Value) ++ List.replicate (2 - (lg_sl ([.ref (a 0), .int p0] : List Value)).length) Slot.unset).toArray = ls at hl ⊢
  have hl : lv_has ls 2 [(0, .ref (a 0)), (1, .int p0)] := hl
  unfold Mo_camber_w at hw
  refine lv_aload_n hx hb d_Mo_camber_0 rfl (lv_at hl 0 rfl) ?_
  refine lv_iload_n hx hb d_Mo_camber_1 rfl (lv_at hl 1 rfl) ?_
  refine lv_aload_n hx hb d_Mo_camber_2 rfl (lv_at hl 0 rfl) ?_
  refine vp_callSi (va_Run.run (va_runV (As := []) (rest := [.int p0, .ref (a 0)]) ⟨hx, hb, hml, hown, hts⟩ (c_Mo_endDay l dC dI cI cJ cG cZ a fi fl ai al _ hw) (cwV 0 hts (zw_goodV kw_853 kw_855 kw_s33 kw_9 kw_856) rfl rfl rfl hd_Mo_endDay ⟨Nat.le_of_ble_eq_true rfl, Nat.le_of_ble_eq_true rfl⟩) (zw_preV (ci := 7) (q0 := 0) hK hN hP rfl rfl) rfl rfl hl.1 rfl (lv_room (Nat.le_of_ble_eq_true rfl)) d_Mo_camber_3 ⟨Nat.le_of_ble_eq_true rfl, Nat.le_of_ble_eq_true rfl⟩)) (fun r3 hw => ?_)
  refine lv_bipush (v := (11 : Int32)) hx hb d_Mo_camber_6 (by decide) ?_
  refine vp_callSl (va_Run.run (va_runV (As := [.int p0, .int r3, .int (11 : Int32)]) (rest := []) ⟨hx, hb, hml, hown, hts⟩ (c_Mo_rise l dC dI cI cJ cG cZ a fi fl ai al p0 r3 (11 : Int32) _ hw) (cwV 3 hts (zw_goodV kw_857 kw_859 kw_s34 kw_9 kw_860) rfl rfl rfl hd_Mo_rise ⟨Nat.le_of_ble_eq_true rfl, Nat.le_of_ble_eq_true rfl⟩) (zw_preV (ci := 7) (q0 := 0) hK hN hP rfl rfl) rfl rfl hl.1 rfl (lv_room (Nat.le_of_ble_eq_true rfl)) d_Mo_camber_8 ⟨Nat.le_of_ble_eq_true rfl, Nat.le_of_ble_eq_true rfl⟩)) (fun r8 hw => ?_)
  refine lv_lneg hx hb d_Mo_camber_11 ?_
  exact W.lret (v := (-r8)) hx hb hr (fun t ht hW => ⟨(-r8), rfl, hw, ht⟩) t_nil d_Mo_camber_12
def Mo_cast_w (fi : Nat → Int32) (fl : Nat → Int64) (ai : Nat → Nat → Int32) (al : Nat → Nat → Int64) (p0 : Int32) (K : Int64 → Prop) : Prop :=
  vp_in p0 6 ∧ (
  Mo_camber_w fi fl ai al p0 (fun (r13 : Int64) =>
  vp_in p0 6 ∧ (
  K ((((1000000000 : Int64) * (ai 2 p0.toNatClampNeg).toInt64) + r13) + (al 14 p0.toNatClampNeg)))))
theorem d_Mo_cast_0 : decode b_Mo_cast 0 = .ok (.ldc2_w 185, 3) := by decide +kernel
theorem d_Mo_cast_3 : decode b_Mo_cast 3 = .ok (.aload_n 0, 1) := by decide +kernel
theorem d_Mo_cast_4 : decode b_Mo_cast 4 = .ok (.getfield 13, 3) := by decide +kernel
theorem d_Mo_cast_7 : decode b_Mo_cast 7 = .ok (.iload_n 1, 1) := by decide +kernel
theorem d_Mo_cast_8 : decode b_Mo_cast 8 = .ok (.iaload, 1) := by decide +kernel
theorem d_Mo_cast_9 : decode b_Mo_cast 9 = .ok (.i2l, 1) := by decide +kernel
theorem d_Mo_cast_10 : decode b_Mo_cast 10 = .ok (.lmul, 1) := by decide +kernel
theorem d_Mo_cast_11 : decode b_Mo_cast 11 = .ok (.aload_n 0, 1) := by decide +kernel
theorem d_Mo_cast_12 : decode b_Mo_cast 12 = .ok (.iload_n 1, 1) := by decide +kernel
theorem d_Mo_cast_13 : decode b_Mo_cast 13 = .ok (.invokevirtual 187, 3) := by decide +kernel
theorem d_Mo_cast_16 : decode b_Mo_cast 16 = .ok (.ladd, 1) := by decide +kernel
theorem d_Mo_cast_17 : decode b_Mo_cast 17 = .ok (.aload_n 0, 1) := by decide +kernel
theorem d_Mo_cast_18 : decode b_Mo_cast 18 = .ok (.getfield 50, 3) := by decide +kernel
theorem d_Mo_cast_21 : decode b_Mo_cast 21 = .ok (.iload_n 1, 1) := by decide +kernel
theorem d_Mo_cast_22 : decode b_Mo_cast 22 = .ok (.laload, 1) := by decide +kernel
theorem d_Mo_cast_23 : decode b_Mo_cast 23 = .ok (.ladd, 1) := by decide +kernel
theorem d_Mo_cast_24 : decode b_Mo_cast 24 = .ok (.lreturn, 1) := by decide +kernel
set_option maxHeartbeats 4000000 in
set_option maxRecDepth 100000 in
theorem c_Mo_cast (l : Launch) (dC : Nat → ClassId) (dI : Nat → Nat → Nat) (cI cJ cG cZ : ClassId) (a : Nat → Nat) (fi : Nat → Int32) (fl : Nat → Int64) (ai : Nat → Nat → Int32) (al : Nat → Nat → Int64) (p0 : Int32) (K : Int64 → Prop) (hw : Mo_cast_w fi fl ai al p0 K) : Met l y_Mo_cast ws_Mo_cast ({ frames := 3, cells := 0, slots := 0, locals := 74 }) (va_Pc [.ref (a 0), .int p0] (zw_B (dC, dI) vwCl [(cI, .int), (cJ, .long), (cG, .array .int), (cZ, .boolean)] (mw cI cJ cG cZ a fi fl ai al))) (vp_Sl K) 0 0 (fun _ => False) := by
  refine Met.ofW (cc := b_Mo_cast) (maxL := 2) (ret := (Option.some FieldType.long)) (by decide) rfl ?_
  intro p e s m args below meth c s₁ B hml hv
  obtain ⟨rfl, hP, hK, hN⟩ := hv
  have hx := B.exec
  have hb := B.bytes
  have hr := B.returns
  have hts := atoms_spec (ws := ws_Mo_cast) B.pre
  have ht : ∀ w ∈ zw_tbl, w.before _ s = true := fun w h => hts w (List.mem_cons_of_mem _ h)
  have hown : s.vm.findClass R_Mo = some m.cls := findClass_of_methodNamed B.named
  have hlocks := B.notSynchronized
  have hl := lv_entry ([.ref (a 0), .int p0] : List Value) (n := 2) (Nat.le_of_ble_eq_true rfl)
  rw [lg_entry_eq]
  generalize (lg_sl ([.ref (a 0), .int p0] : List Value) ++ List.replicate (2 - (lg_sl ([.ref (a 0), .int p0] : List Value)).length) Slot.unset).toArray = ls at hl ⊢
  have hl : lv_has ls 2 [(0, .ref (a 0)), (1, .int p0)] := hl
  unfold Mo_cast_w at hw
  refine lv_ldc2 (v := (1000000000 : Int64)) hx hb hown (hts (.constantLong R_Mo 185 (1000000000 : Int64)) (by decide +kernel)) d_Mo_cast_0 ?_
  refine lv_aload_n hx hb d_Mo_cast_3 rfl (lv_at hl 0 rfl) ?_
  refine va_get (D := (dC, dI)) (ci := 7) (v := .ref (a 2)) (C := R_Mo) (T := T_Mo) (N := 36) hx hb ht in_Mo hown hK hP 0 rfl rfl 2 (by decide) (ht _ kw_615) (fun _ h9 => h9) rfl d_Mo_cast_4 ?_
  refine lv_iload_n hx hb d_Mo_cast_7 rfl (lv_at hl 1 rfl) ?_
  obtain ⟨h8, hw⟩ := hw
  refine va_iald (f := ai 2) hx hb hK hP 2 0 rfl rfl h8 d_Mo_cast_8 ?_
  refine lv_i2l hx hb d_Mo_cast_9 rfl ?_
  refine lv_lmul hx hb d_Mo_cast_10 ?_
  refine lv_aload_n hx hb d_Mo_cast_11 rfl (lv_at hl 0 rfl) ?_
  refine lv_iload_n hx hb d_Mo_cast_12 rfl (lv_at hl 1 rfl) ?_
  refine vp_callSl (va_Run.run (va_runV (As := [.int p0]) (rest := [.long ((1000000000 : Int64) * (ai 2 p0.toNatClampNeg).toInt64)]) ⟨hx, hb, hml, hown, hts⟩ (c_Mo_camber l dC dI cI cJ cG cZ a fi fl ai al p0 _ hw) (cwV 1 hts (zw_goodV kw_849 kw_851 kw_s32 kw_9 kw_852) rfl rfl rfl hd_Mo_camber ⟨Nat.le_of_ble_eq_true rfl, Nat.le_of_ble_eq_true rfl⟩) (zw_preV (ci := 7) (q0 := 0) hK hN hP rfl rfl) rfl rfl hl.1 rfl (lv_room (Nat.le_of_ble_eq_true rfl)) d_Mo_cast_13 ⟨Nat.le_of_ble_eq_true rfl, Nat.le_of_ble_eq_true rfl⟩)) (fun r13 hw => ?_)
  refine lv_ladd hx hb d_Mo_cast_16 ?_
  refine lv_aload_n hx hb d_Mo_cast_17 rfl (lv_at hl 0 rfl) ?_
  refine va_get (D := (dC, dI)) (ci := 7) (v := .ref (a 14)) (C := R_Mo) (T := T_Mo) (N := 36) hx hb ht in_Mo hown hK hP 0 rfl rfl 17 (by decide) (ht _ kw_630) (fun _ h9 => h9) rfl d_Mo_cast_18 ?_
  refine lv_iload_n hx hb d_Mo_cast_21 rfl (lv_at hl 1 rfl) ?_
  obtain ⟨h22, hw⟩ := hw
  refine va_lald (f := al 14) hx hb hK hP 14 1 rfl rfl h22 d_Mo_cast_22 ?_
  refine lv_ladd hx hb d_Mo_cast_23 ?_
  exact W.lret (v := ((((1000000000 : Int64) * (ai 2 p0.toNatClampNeg).toInt64) + r13) + (al 14 p0.toNatClampNeg))) hx hb hr (fun t ht hW => ⟨((((1000000000 : Int64) * (ai 2 p0.toNatClampNeg).toInt64) + r13) + (al 14 p0.toNatClampNeg)), rfl, hw, ht⟩) t_nil d_Mo_cast_24
def Mo_passPlan_w (fi : Nat → Int32) (fl : Nat → Int64) (ai : Nat → Nat → Int32) (al : Nat → Nat → Int64) (K : (Nat → Int32) → (Nat → Nat → Int32) → (Nat → Nat → Int64) → Prop) : Prop :=
  Mo_takePlan_w fi fl ai al  (fun (fi_1 : Nat → Int32) (ai_1 : Nat → Nat → Int32) =>
  Mo_pass_w fi_1 fl ai_1 al  (fun (ai_5 : Nat → Nat → Int32) (al_5 : Nat → Nat → Int64) =>
  K fi_1 ai_5 al_5))
theorem d_Mo_passPlan_0 : decode b_Mo_passPlan 0 = .ok (.aload_n 0, 1) := by decide +kernel
theorem d_Mo_passPlan_1 : decode b_Mo_passPlan 1 = .ok (.invokevirtual 191, 3) := by decide +kernel
theorem d_Mo_passPlan_4 : decode b_Mo_passPlan 4 = .ok (.aload_n 0, 1) := by decide +kernel
theorem d_Mo_passPlan_5 : decode b_Mo_passPlan 5 = .ok (.invokevirtual 194, 3) := by decide +kernel
theorem d_Mo_passPlan_8 : decode b_Mo_passPlan 8 = .ok (.return_, 1) := by decide +kernel
set_option maxHeartbeats 4000000 in
set_option maxRecDepth 100000 in
theorem c_Mo_passPlan (l : Launch) (dC : Nat → ClassId) (dI : Nat → Nat → Nat) (cI cJ cG cZ : ClassId) (a : Nat → Nat) (sz : Nat) (fi : Nat → Int32) (fl : Nat → Int64) (ai : Nat → Nat → Int32) (al : Nat → Nat → Int64) (K : (Nat → Int32) → (Nat → Nat → Int32) → (Nat → Nat → Int64) → Prop) (hw : Mo_passPlan_w fi fl ai al K) : Met l y_Mo_passPlan ws_Mo_passPlan ({ frames := 2, cells := 0, slots := 0, locals := 50 }) (va_Pc [.ref (a 0)] (zw_Bw (dC, dI) vwCl [(cI, .int), (cJ, .long), (cG, .array .int), (cZ, .boolean)] (mw cI cJ cG cZ a fi fl ai al) sz)) (va_Qv (fun (u : zw_Z) => (zw_k_fi_ai_alv fl K) u.1 u.2.1 u.2.2.1 u.2.2.2) (fun u t => zw_E (dC, dI) vwCl [(cI, .int), (cJ, .long), (cG, .array .int), (cZ, .boolean)] (va_A (mw cI cJ cG cZ a fi fl ai al) sz) (mw cI cJ cG cZ a u.1 u.2.1 u.2.2.1 u.2.2.2) t) (va_A (mw cI cJ cG cZ a fi fl ai al) sz)) 0 0 (va_A (mw cI cJ cG cZ a fi fl ai al) sz) := by
  refine Met.ofW (cc := b_Mo_passPlan) (maxL := 1) (ret := (Option.none : Option FieldType)) (by decide) rfl ?_
  intro p e s m args below meth c s₁ B hml hv
  obtain ⟨rfl, hsz, hP, hK, hD0, hN⟩ := hv
  have hx := B.exec
  have hb := B.bytes
  have hr := B.returns
  have hts := atoms_spec (ws := ws_Mo_passPlan) B.pre
  have ht : ∀ w ∈ zw_tbl, w.before _ s = true := fun w h => hts w (List.mem_cons_of_mem _ h)
  have hown : s.vm.findClass R_Mo = some m.cls := findClass_of_methodNamed B.named
  have hlocks := B.notSynchronized
  subst hsz
  have hD := hD0.self (sz := s.heap.size)
  generalize hAe : va_A (mw cI cJ cG cZ a fi fl ai al) s.heap.size = A at hD ⊢
  have hA : ∀ q : Nat, s.heap.size ≤ q → A q := fun q h => by rw [← hAe]; exact Or.inr h
  have hS : va_S A s.heap s.heap [] := va_S.rf
  have hl := lv_entry ([.ref (a 0)] : List Value) (n := 1) (Nat.le_of_ble_eq_true rfl)
  rw [lg_entry_eq]
  generalize (lg_sl ([.ref (a 0)] : List Value) ++ List.replicate (1 - (lg_sl ([.ref (a 0)] : List Value)).length) Slot.unset).toArray = ls at hl ⊢
  have hl : lv_has ls 1 [(0, .ref (a 0))] := hl
  unfold Mo_passPlan_w at hw
  obtain ⟨H, hH⟩ : ∃ H, H = s.heap := ⟨_, rfl⟩
  obtain ⟨locs, hlo⟩ : ∃ q : List Loc, q = [] := ⟨_, rfl⟩
  have hP : va_P (dC, dI) vwCl (mw cI cJ cG cZ a fi fl ai al) H := by rw [hH]; exact hP
  have hS : va_S A s.heap H locs := by rw [hH, hlo]; exact hS
  have key : W p l e (headSpec ws_Mo_passPlan ({ frames := 2, cells := 0, slots := 0, locals := 50 })).room s m ([.ref (a 0)] : List Value).toArray below meth c H locs 0 0 (MQ below (va_Qv (fun (u : zw_Z) => (zw_k_fi_ai_alv fl K) u.1 u.2.1 u.2.2.1 u.2.2.2) (fun u t => zw_E (dC, dI) vwCl [(cI, .int), (cJ, .long), (cG, .array .int), (cZ, .boolean)] A (mw cI cJ cG cZ a u.1 u.2.1 u.2.2.1 u.2.2.2) t) A) ([.ref (a 0)] : List Value).toArray s 0 0 A) (F0 m 0 ls []) := by
    refine lv_aload_n hx hb d_Mo_passPlan_0 rfl (lv_at hl 0 rfl) ?_
    refine zw_cv (va_runV (As := []) (rest := []) ⟨hx, hb, hml, hown, hts⟩ (c_Mo_takePlan l dC dI cI cJ cG cZ a H.size fi fl ai al _ hw) (cwV 0 hts (zw_goodV kw_820 kw_822 kw_s25 kw_9 kw_823) rfl rfl rfl hd_Mo_takePlan ⟨Nat.le_of_ble_eq_true rfl, Nat.le_of_ble_eq_true rfl⟩) (zw_preVw (ci := 7) (q0 := 0) hK hN hP hD rfl rfl) rfl rfl hl.1 rfl (lv_room (Nat.le_of_ble_eq_true rfl)) d_Mo_passPlan_1 ⟨Nat.le_of_ble_eq_true rfl, Nat.le_of_ble_eq_true rfl⟩) hD hS hA (fun fi_1 fl_1 ai_1 al_1 H locs hw hP hD hS => ?_)
    obtain ⟨rfl, rfl, hw⟩ := hw
    refine lv_aload_n hx hb d_Mo_passPlan_4 rfl (lv_at hl 0 rfl) ?_
    refine zw_cv (va_runV (As := []) (rest := []) ⟨hx, hb, hml, hown, hts⟩ (c_Mo_pass l dC dI cI cJ cG cZ a H.size fi_1 fl ai_1 al _ hw) (cwV 0 hts (zw_goodV kw_824 kw_826 kw_s26 kw_9 kw_827) rfl rfl rfl hd_Mo_pass ⟨Nat.le_of_ble_eq_true rfl, Nat.le_of_ble_eq_true rfl⟩) (zw_preVw (ci := 7) (q0 := 0) hK hN hP hD rfl rfl) rfl rfl hl.1 rfl (lv_room (Nat.le_of_ble_eq_true rfl)) d_Mo_passPlan_5 ⟨Nat.le_of_ble_eq_true rfl, Nat.le_of_ble_eq_true rfl⟩) hD hS hA (fun fi_5 fl_5 ai_5 al_5 H locs hw hP hD hS => ?_)
    obtain ⟨rfl, rfl, hw⟩ := hw
    exact W.vret hx hb hr (fun t ht hW => ⟨⟨(fi_1, fl, ai_5, al_5), rfl, ⟨rfl, hw⟩, by rw [ht]; exact hP, va_K.moved hW.alike hK, hD⟩, hS.F ht⟩) hS.2.2 d_Mo_passPlan_8
  rw [hH, hlo] at key
  exact key
def Mo_isThere_w (fi : Nat → Int32) (fl : Nat → Int64) (ai : Nat → Nat → Int32) (al : Nat → Nat → Int64) (p0 : Int32) (p1 : Int32) (K : Int32 → Prop) : Prop :=
  Mo_isPart_w fi fl ai al p0 (fun (r2 : Int32) =>
  if r2 = 0 then (
    K (0 : Int32))
  else (
    Mo_isStage_w fi fl ai al p1 (fun (r10 : Int32) =>
    if r10 = 0 then (
      K (0 : Int32))
    else (
      vp_in p0 6 ∧ (
      if (ai 22 p0.toNatClampNeg) < 0 then (
        K (0 : Int32))
      else (
        vp_in p0 6 ∧ (
        vp_in (ai 22 p0.toNatClampNeg) 40 ∧ (
        if p1 < (ai 13 (ai 22 p0.toNatClampNeg).toNatClampNeg) then (
          K (0 : Int32))
        else (
          K (1 : Int32))))))))))
theorem d_Mo_isThere_0 : decode b_Mo_isThere 0 = .ok (.aload_n 0, 1) := by decide +kernel
theorem d_Mo_isThere_1 : decode b_Mo_isThere 1 = .ok (.iload_n 1, 1) := by decide +kernel
theorem d_Mo_isThere_2 : decode b_Mo_isThere 2 = .ok (.invokevirtual 110, 3) := by decide +kernel
theorem d_Mo_isThere_5 : decode b_Mo_isThere 5 = .ok (.ifCond .eq (39), 3) := by decide +kernel
theorem d_Mo_isThere_8 : decode b_Mo_isThere 8 = .ok (.aload_n 0, 1) := by decide +kernel
theorem d_Mo_isThere_9 : decode b_Mo_isThere 9 = .ok (.iload_n 2, 1) := by decide +kernel
theorem d_Mo_isThere_10 : decode b_Mo_isThere 10 = .ok (.invokevirtual 197, 3) := by decide +kernel
theorem d_Mo_isThere_13 : decode b_Mo_isThere 13 = .ok (.ifCond .eq (31), 3) := by decide +kernel
theorem d_Mo_isThere_16 : decode b_Mo_isThere 16 = .ok (.aload_n 0, 1) := by decide +kernel
theorem d_Mo_isThere_17 : decode b_Mo_isThere 17 = .ok (.getfield 82, 3) := by decide +kernel
theorem d_Mo_isThere_20 : decode b_Mo_isThere 20 = .ok (.iload_n 1, 1) := by decide +kernel
theorem d_Mo_isThere_21 : decode b_Mo_isThere 21 = .ok (.iaload, 1) := by decide +kernel
theorem d_Mo_isThere_22 : decode b_Mo_isThere 22 = .ok (.ifCond .lt (22), 3) := by decide +kernel
theorem d_Mo_isThere_25 : decode b_Mo_isThere 25 = .ok (.aload_n 0, 1) := by decide +kernel
theorem d_Mo_isThere_26 : decode b_Mo_isThere 26 = .ok (.getfield 47, 3) := by decide +kernel
theorem d_Mo_isThere_29 : decode b_Mo_isThere 29 = .ok (.aload_n 0, 1) := by decide +kernel
theorem d_Mo_isThere_30 : decode b_Mo_isThere 30 = .ok (.getfield 82, 3) := by decide +kernel
theorem d_Mo_isThere_33 : decode b_Mo_isThere 33 = .ok (.iload_n 1, 1) := by decide +kernel
theorem d_Mo_isThere_34 : decode b_Mo_isThere 34 = .ok (.iaload, 1) := by decide +kernel
theorem d_Mo_isThere_35 : decode b_Mo_isThere 35 = .ok (.iaload, 1) := by decide +kernel
theorem d_Mo_isThere_36 : decode b_Mo_isThere 36 = .ok (.iload_n 2, 1) := by decide +kernel
theorem d_Mo_isThere_37 : decode b_Mo_isThere 37 = .ok (.if_icmp .gt (7), 3) := by decide +kernel
theorem d_Mo_isThere_40 : decode b_Mo_isThere 40 = .ok (.iconst 1, 1) := by decide +kernel
theorem d_Mo_isThere_41 : decode b_Mo_isThere 41 = .ok (.goto (4), 3) := by decide +kernel
theorem d_Mo_isThere_44 : decode b_Mo_isThere 44 = .ok (.iconst 0, 1) := by decide +kernel
theorem d_Mo_isThere_45 : decode b_Mo_isThere 45 = .ok (.ireturn, 1) := by decide +kernel
set_option maxHeartbeats 4000000 in
set_option maxRecDepth 100000 in
theorem c_Mo_isThere (l : Launch) (dC : Nat → ClassId) (dI : Nat → Nat → Nat) (cI cJ cG cZ : ClassId) (a : Nat → Nat) (fi : Nat → Int32) (fl : Nat → Int64) (ai : Nat → Nat → Int32) (al : Nat → Nat → Int64) (p0 : Int32) (p1 : Int32) (K : Int32 → Prop) (hw : Mo_isThere_w fi fl ai al p0 p1 K) : Met l y_Mo_isThere ws_Mo_isThere ({ frames := 2, cells := 0, slots := 0, locals := 46 }) (va_Pc [.ref (a 0), .int p0, .int p1] (zw_B (dC, dI) vwCl [(cI, .int), (cJ, .long), (cG, .array .int), (cZ, .boolean)] (mw cI cJ cG cZ a fi fl ai al))) (vp_Si K) 0 0 (fun _ => False) := by
  refine Met.ofW (cc := b_Mo_isThere) (maxL := 3) (ret := (Option.some FieldType.boolean)) (by decide) rfl ?_
  intro p e s m args below meth c s₁ B hml hv
  obtain ⟨rfl, hP, hK, hN⟩ := hv
  have hx := B.exec
  have hb := B.bytes
  have hr := B.returns
  have hts := atoms_spec (ws := ws_Mo_isThere) B.pre
  have ht : ∀ w ∈ zw_tbl, w.before _ s = true := fun w h => hts w (List.mem_cons_of_mem _ h)
  have hown : s.vm.findClass R_Mo = some m.cls := findClass_of_methodNamed B.named
  have hlocks := B.notSynchronized
  have hl := lv_entry ([.ref (a 0), .int p0, .int p1] : List Value) (n := 3) (Nat.le_of_ble_eq_true rfl)
  rw [lg_entry_eq]
  generalize (lg_sl ([.ref (a 0), .int p0, .int p1] : List Value) ++ List.replicate (3 - (lg_sl ([.ref (a 0), .int p0, .int p1] : List Value)).length) Slot.unset).toArray = ls at hl ⊢
  have hl : lv_has ls 3 [(0, .ref (a 0)), (1, .int p0), (2, .int p1)] := hl
  unfold Mo_isThere_w at hw
  refine lv_aload_n hx hb d_Mo_isThere_0 rfl (lv_at hl 0 rfl) ?_
  refine lv_iload_n hx hb d_Mo_isThere_1 rfl (lv_at hl 1 rfl) ?_
  refine vp_callSi (va_Run.run (va_runV (As := [.int p0]) (rest := []) ⟨hx, hb, hml, hown, hts⟩ (c_Mo_isPart l dC dI cI cJ cG cZ a fi fl ai al p0 _ hw) (cwV 1 hts (zw_goodV kw_727 kw_729 kw_s16 kw_9 kw_730) rfl rfl rfl hd_Mo_isPart ⟨Nat.le_of_ble_eq_true rfl, Nat.le_of_ble_eq_true rfl⟩) (zw_preV (ci := 7) (q0 := 0) hK hN hP rfl rfl) rfl rfl hl.1 rfl (lv_room (Nat.le_of_ble_eq_true rfl)) d_Mo_isThere_2 ⟨Nat.le_of_ble_eq_true rfl, Nat.le_of_ble_eq_true rfl⟩)) (fun r2 hw => ?_)
  refine lv_if_eq (tgt := 44) hx hb d_Mo_isThere_5 (by decide) (fun c5 => ?_) (fun c5 => ?_)
  · have hw := zw_ite_t c5 hw
    refine lv_iconst (v := (0 : Int32)) hx hb d_Mo_isThere_44 (by decide) ?_
    exact W.zret (v := (0 : Int32)) (ty := .boolean) hx hb hr rfl (fun t ht hW => ⟨(0 : Int32), rfl, hw, ht⟩) t_nil d_Mo_isThere_45
  · have hw := zw_ite_f c5 hw
    refine lv_aload_n hx hb d_Mo_isThere_8 rfl (lv_at hl 0 rfl) ?_
    refine lv_iload_n hx hb d_Mo_isThere_9 rfl (lv_at hl 2 rfl) ?_
    refine vp_callSi (va_Run.run (va_runV (As := [.int p1]) (rest := []) ⟨hx, hb, hml, hown, hts⟩ (c_Mo_isStage l dC dI cI cJ cG cZ a fi fl ai al p1 _ hw) (cwV 1 hts (zw_goodV kw_836 kw_838 kw_s29 kw_9 kw_839) rfl rfl rfl hd_Mo_isStage ⟨Nat.le_of_ble_eq_true rfl, Nat.le_of_ble_eq_true rfl⟩) (zw_preV (ci := 7) (q0 := 0) hK hN hP rfl rfl) rfl rfl hl.1 rfl (lv_room (Nat.le_of_ble_eq_true rfl)) d_Mo_isThere_10 ⟨Nat.le_of_ble_eq_true rfl, Nat.le_of_ble_eq_true rfl⟩)) (fun r10 hw => ?_)
    refine lv_if_eq (tgt := 44) hx hb d_Mo_isThere_13 (by decide) (fun c13 => ?_) (fun c13 => ?_)
    · have hw := zw_ite_t c13 hw
      refine lv_iconst (v := (0 : Int32)) hx hb d_Mo_isThere_44 (by decide) ?_
      exact W.zret (v := (0 : Int32)) (ty := .boolean) hx hb hr rfl (fun t ht hW => ⟨(0 : Int32), rfl, hw, ht⟩) t_nil d_Mo_isThere_45
    · have hw := zw_ite_f c13 hw
      refine lv_aload_n hx hb d_Mo_isThere_16 rfl (lv_at hl 0 rfl) ?_
      refine va_get (D := (dC, dI)) (ci := 7) (v := .ref (a 22)) (C := R_Mo) (T := T_Mo) (N := 36) hx hb ht in_Mo hown hK hP 0 rfl rfl 30 (by decide) (ht _ kw_643) (fun _ h9 => h9) rfl d_Mo_isThere_17 ?_
      refine lv_iload_n hx hb d_Mo_isThere_20 rfl (lv_at hl 1 rfl) ?_
      obtain ⟨h21, hw⟩ := hw
      refine va_iald (f := ai 22) hx hb hK hP 22 0 rfl rfl h21 d_Mo_isThere_21 ?_
      refine lv_if_lt (tgt := 44) hx hb d_Mo_isThere_22 (by decide) (fun c22 => ?_) (fun c22 => ?_)
      · have hw := zw_ite_t c22 hw
        refine lv_iconst (v := (0 : Int32)) hx hb d_Mo_isThere_44 (by decide) ?_
        exact W.zret (v := (0 : Int32)) (ty := .boolean) hx hb hr rfl (fun t ht hW => ⟨(0 : Int32), rfl, hw, ht⟩) t_nil d_Mo_isThere_45
      · have hw := zw_ite_f c22 hw
        refine lv_aload_n hx hb d_Mo_isThere_25 rfl (lv_at hl 0 rfl) ?_
        refine va_get (D := (dC, dI)) (ci := 7) (v := .ref (a 13)) (C := R_Mo) (T := T_Mo) (N := 36) hx hb ht in_Mo hown hK hP 0 rfl rfl 15 (by decide) (ht _ kw_628) (fun _ h9 => h9) rfl d_Mo_isThere_26 ?_
        refine lv_aload_n hx hb d_Mo_isThere_29 rfl (lv_at hl 0 rfl) ?_
        refine va_get (D := (dC, dI)) (ci := 7) (v := .ref (a 22)) (C := R_Mo) (T := T_Mo) (N := 36) hx hb ht in_Mo hown hK hP 0 rfl rfl 30 (by decide) (ht _ kw_643) (fun _ h9 => h9) rfl d_Mo_isThere_30 ?_
        refine lv_iload_n hx hb d_Mo_isThere_33 rfl (lv_at hl 1 rfl) ?_
        obtain ⟨h34, hw⟩ := hw
        refine va_iald (f := ai 22) hx hb hK hP 22 0 rfl rfl h34 d_Mo_isThere_34 ?_
        obtain ⟨h35, hw⟩ := hw
        refine va_iald (f := ai 13) hx hb hK hP 13 0 rfl rfl h35 d_Mo_isThere_35 ?_
        refine lv_iload_n hx hb d_Mo_isThere_36 rfl (lv_at hl 2 rfl) ?_
        refine lv_icmp_gt (tgt := 44) hx hb d_Mo_isThere_37 (by decide) (fun c37 => ?_) (fun c37 => ?_)
        · have hw := zw_ite_t c37 hw
          refine lv_iconst (v := (0 : Int32)) hx hb d_Mo_isThere_44 (by decide) ?_
          exact W.zret (v := (0 : Int32)) (ty := .boolean) hx hb hr rfl (fun t ht hW => ⟨(0 : Int32), rfl, hw, ht⟩) t_nil d_Mo_isThere_45
        · have hw := zw_ite_f c37 hw
          refine lv_iconst (v := (1 : Int32)) hx hb d_Mo_isThere_40 (by decide) ?_
          refine lv_goto (tgt := 45) hx hb d_Mo_isThere_41 (by decide) ?_
          exact W.zret (v := (1 : Int32)) (ty := .boolean) hx hb hr rfl (fun t ht hW => ⟨(1 : Int32), rfl, hw, ht⟩) t_nil d_Mo_isThere_45
def Mo_levelAt_w (fi : Nat → Int32) (fl : Nat → Int64) (ai : Nat → Nat → Int32) (al : Nat → Nat → Int64) (p0 : Int32) (p1 : Int32) (K : Int64 → Prop) : Prop :=
  Mo_cast_w fi fl ai al p0 (fun (r2 : Int64) =>
  vp_in p1 12 ∧ (
  Mo_rise_w fi fl ai al p0 (ai 9 p1.toNatClampNeg) p1 (fun (r14 : Int64) =>
  K (r2 + r14))))
theorem d_Mo_levelAt_0 : decode b_Mo_levelAt 0 = .ok (.aload_n 0, 1) := by decide +kernel
theorem d_Mo_levelAt_1 : decode b_Mo_levelAt 1 = .ok (.iload_n 1, 1) := by decide +kernel
theorem d_Mo_levelAt_2 : decode b_Mo_levelAt 2 = .ok (.invokevirtual 200, 3) := by decide +kernel
theorem d_Mo_levelAt_5 : decode b_Mo_levelAt 5 = .ok (.aload_n 0, 1) := by decide +kernel
theorem d_Mo_levelAt_6 : decode b_Mo_levelAt 6 = .ok (.iload_n 1, 1) := by decide +kernel
theorem d_Mo_levelAt_7 : decode b_Mo_levelAt 7 = .ok (.aload_n 0, 1) := by decide +kernel
theorem d_Mo_levelAt_8 : decode b_Mo_levelAt 8 = .ok (.getfield 35, 3) := by decide +kernel
theorem d_Mo_levelAt_11 : decode b_Mo_levelAt 11 = .ok (.iload_n 2, 1) := by decide +kernel
theorem d_Mo_levelAt_12 : decode b_Mo_levelAt 12 = .ok (.iaload, 1) := by decide +kernel
theorem d_Mo_levelAt_13 : decode b_Mo_levelAt 13 = .ok (.iload_n 2, 1) := by decide +kernel
theorem d_Mo_levelAt_14 : decode b_Mo_levelAt 14 = .ok (.invokevirtual 181, 3) := by decide +kernel
theorem d_Mo_levelAt_17 : decode b_Mo_levelAt 17 = .ok (.ladd, 1) := by decide +kernel
theorem d_Mo_levelAt_18 : decode b_Mo_levelAt 18 = .ok (.lreturn, 1) := by decide +kernel
set_option maxHeartbeats 4000000 in
set_option maxRecDepth 100000 in
theorem c_Mo_levelAt (l : Launch) (dC : Nat → ClassId) (dI : Nat → Nat → Nat) (cI cJ cG cZ : ClassId) (a : Nat → Nat) (fi : Nat → Int32) (fl : Nat → Int64) (ai : Nat → Nat → Int32) (al : Nat → Nat → Int64) (p0 : Int32) (p1 : Int32) (K : Int64 → Prop) (hw : Mo_levelAt_w fi fl ai al p0 p1 K) : Met l y_Mo_levelAt ws_Mo_levelAt ({ frames := 4, cells := 0, slots := 0, locals := 95 }) (va_Pc [.ref (a 0), .int p0, .int p1] (zw_B (dC, dI) vwCl [(cI, .int), (cJ, .long), (cG, .array .int), (cZ, .boolean)] (mw cI cJ cG cZ a fi fl ai al))) (vp_Sl K) 0 0 (fun _ => False) := by
  refine Met.ofW (cc := b_Mo_levelAt) (maxL := 3) (ret := (Option.some FieldType.long)) (by decide) rfl ?_
  intro p e s m args below meth c s₁ B hml hv
  obtain ⟨rfl, hP, hK, hN⟩ := hv
  have hx := B.exec
  have hb := B.bytes
  have hr := B.returns
  have hts := atoms_spec (ws := ws_Mo_levelAt) B.pre
  have ht : ∀ w ∈ zw_tbl, w.before _ s = true := fun w h => hts w (List.mem_cons_of_mem _ h)
  have hown : s.vm.findClass R_Mo = some m.cls := findClass_of_methodNamed B.named
  have hlocks := B.notSynchronized
  have hl := lv_entry ([.ref (a 0), .int p0, .int p1] : List Value) (n := 3) (Nat.le_of_ble_eq_true rfl)
  rw [lg_entry_eq]
  generalize (lg_sl ([.ref (a 0), .int p0, .int p1] : List Value) ++ List.replicate (3 - (lg_sl ([.ref (a 0), .int p0, .int p1] : List Value)).length) Slot.unset).toArray = ls at hl ⊢
  have hl : lv_has ls 3 [(0, .ref (a 0)), (1, .int p0), (2, .int p1)] := hl
  unfold Mo_levelAt_w at hw
  refine lv_aload_n hx hb d_Mo_levelAt_0 rfl (lv_at hl 0 rfl) ?_
  refine lv_iload_n hx hb d_Mo_levelAt_1 rfl (lv_at hl 1 rfl) ?_
  refine vp_callSl (va_Run.run (va_runV (As := [.int p0]) (rest := []) ⟨hx, hb, hml, hown, hts⟩ (c_Mo_cast l dC dI cI cJ cG cZ a fi fl ai al p0 _ hw) (cwV 1 hts (zw_goodV kw_844 kw_846 kw_s31 kw_9 kw_847) rfl rfl rfl hd_Mo_cast ⟨Nat.le_of_ble_eq_true rfl, Nat.le_of_ble_eq_true rfl⟩) (zw_preV (ci := 7) (q0 := 0) hK hN hP rfl rfl) rfl rfl hl.1 rfl (lv_room (Nat.le_of_ble_eq_true rfl)) d_Mo_levelAt_2 ⟨Nat.le_of_ble_eq_true rfl, Nat.le_of_ble_eq_true rfl⟩)) (fun r2 hw => ?_)
  refine lv_aload_n hx hb d_Mo_levelAt_5 rfl (lv_at hl 0 rfl) ?_
  refine lv_iload_n hx hb d_Mo_levelAt_6 rfl (lv_at hl 1 rfl) ?_
  refine lv_aload_n hx hb d_Mo_levelAt_7 rfl (lv_at hl 0 rfl) ?_
  refine va_get (D := (dC, dI)) (ci := 7) (v := .ref (a 9)) (C := R_Mo) (T := T_Mo) (N := 36) hx hb ht in_Mo hown hK hP 0 rfl rfl 10 (by decide) (ht _ kw_623) (fun _ h9 => h9) rfl d_Mo_levelAt_8 ?_
  refine lv_iload_n hx hb d_Mo_levelAt_11 rfl (lv_at hl 2 rfl) ?_
  obtain ⟨h12, hw⟩ := hw
  refine va_iald (f := ai 9) hx hb hK hP 9 0 rfl rfl h12 d_Mo_levelAt_12 ?_
  refine lv_iload_n hx hb d_Mo_levelAt_13 rfl (lv_at hl 2 rfl) ?_
  refine vp_callSl (va_Run.run (va_runV (As := [.int p0, .int (ai 9 p1.toNatClampNeg), .int p1]) (rest := [.long r2]) ⟨hx, hb, hml, hown, hts⟩ (c_Mo_rise l dC dI cI cJ cG cZ a fi fl ai al p0 (ai 9 p1.toNatClampNeg) p1 _ hw) (cwV 3 hts (zw_goodV kw_857 kw_859 kw_s34 kw_9 kw_860) rfl rfl rfl hd_Mo_rise ⟨Nat.le_of_ble_eq_true rfl, Nat.le_of_ble_eq_true rfl⟩) (zw_preV (ci := 7) (q0 := 0) hK hN hP rfl rfl) rfl rfl hl.1 rfl (lv_room (Nat.le_of_ble_eq_true rfl)) d_Mo_levelAt_14 ⟨Nat.le_of_ble_eq_true rfl, Nat.le_of_ble_eq_true rfl⟩)) (fun r14 hw => ?_)
  refine lv_ladd hx hb d_Mo_levelAt_17 ?_
  exact W.lret (v := (r2 + r14)) hx hb hr (fun t ht hW => ⟨(r2 + r14), rfl, hw, ht⟩) t_nil d_Mo_levelAt_18
def Mo_level_w (fi : Nat → Int32) (fl : Nat → Int64) (ai : Nat → Nat → Int32) (al : Nat → Nat → Int64) (p0 : Int32) (p1 : Int32) (K : Int64 → (Nat → Int32) → (Nat → Nat → Int32) → (Nat → Nat → Int64) → Prop) : Prop :=
  Mo_passPlan_w fi fl ai al  (fun (fi_1 : Nat → Int32) (ai_1 : Nat → Nat → Int32) (al_1 : Nat → Nat → Int64) =>
  Mo_isThere_w fi_1 fl ai_1 al_1 p0 p1 (fun (r7 : Int32) =>
  if r7 = 0 then (
    K (-1000000000000000000 : Int64) fi_1 ai_1 al_1)
  else (
    Mo_levelAt_w fi_1 fl ai_1 al_1 p0 p1 (fun (r16 : Int64) =>
    K r16 fi_1 ai_1 al_1))))
theorem d_Mo_level_0 : decode b_Mo_level 0 = .ok (.aload_n 0, 1) := by decide +kernel
theorem d_Mo_level_1 : decode b_Mo_level 1 = .ok (.invokevirtual 203, 3) := by decide +kernel
theorem d_Mo_level_4 : decode b_Mo_level 4 = .ok (.aload_n 0, 1) := by decide +kernel
theorem d_Mo_level_5 : decode b_Mo_level 5 = .ok (.iload_n 1, 1) := by decide +kernel
theorem d_Mo_level_6 : decode b_Mo_level 6 = .ok (.iload_n 2, 1) := by decide +kernel
theorem d_Mo_level_7 : decode b_Mo_level 7 = .ok (.invokevirtual 206, 3) := by decide +kernel
theorem d_Mo_level_10 : decode b_Mo_level 10 = .ok (.ifCond .eq (12), 3) := by decide +kernel
theorem d_Mo_level_13 : decode b_Mo_level 13 = .ok (.aload_n 0, 1) := by decide +kernel
theorem d_Mo_level_14 : decode b_Mo_level 14 = .ok (.iload_n 1, 1) := by decide +kernel
theorem d_Mo_level_15 : decode b_Mo_level 15 = .ok (.iload_n 2, 1) := by decide +kernel
theorem d_Mo_level_16 : decode b_Mo_level 16 = .ok (.invokevirtual 209, 3) := by decide +kernel
theorem d_Mo_level_19 : decode b_Mo_level 19 = .ok (.goto (6), 3) := by decide +kernel
theorem d_Mo_level_22 : decode b_Mo_level 22 = .ok (.ldc2_w 148, 3) := by decide +kernel
theorem d_Mo_level_25 : decode b_Mo_level 25 = .ok (.lreturn, 1) := by decide +kernel
set_option maxHeartbeats 4000000 in
set_option maxRecDepth 100000 in
theorem c_Mo_level (l : Launch) (dC : Nat → ClassId) (dI : Nat → Nat → Nat) (cI cJ cG cZ : ClassId) (a : Nat → Nat) (sz : Nat) (fi : Nat → Int32) (fl : Nat → Int64) (ai : Nat → Nat → Int32) (al : Nat → Nat → Int64) (p0 : Int32) (p1 : Int32) (K : Int64 → (Nat → Int32) → (Nat → Nat → Int32) → (Nat → Nat → Int64) → Prop) (hw : Mo_level_w fi fl ai al p0 p1 K) : Met l y_Mo_level ws_Mo_level ({ frames := 5, cells := 0, slots := 0, locals := 117 }) (va_Pc [.ref (a 0), .int p0, .int p1] (zw_Bw (dC, dI) vwCl [(cI, .int), (cJ, .long), (cG, .array .int), (cZ, .boolean)] (mw cI cJ cG cZ a fi fl ai al) sz)) (va_Ql (fun r (u : zw_Z) => (zw_k_fi_ai_alr fl K) r u.1 u.2.1 u.2.2.1 u.2.2.2) (fun u t => zw_E (dC, dI) vwCl [(cI, .int), (cJ, .long), (cG, .array .int), (cZ, .boolean)] (va_A (mw cI cJ cG cZ a fi fl ai al) sz) (mw cI cJ cG cZ a u.1 u.2.1 u.2.2.1 u.2.2.2) t) (va_A (mw cI cJ cG cZ a fi fl ai al) sz)) 0 0 (va_A (mw cI cJ cG cZ a fi fl ai al) sz) := by
  refine Met.ofW (cc := b_Mo_level) (maxL := 3) (ret := (Option.some FieldType.long)) (by decide) rfl ?_
  intro p e s m args below meth c s₁ B hml hv
  obtain ⟨rfl, hsz, hP, hK, hD0, hN⟩ := hv
  have hx := B.exec
  have hb := B.bytes
  have hr := B.returns
  have hts := atoms_spec (ws := ws_Mo_level) B.pre
  have ht : ∀ w ∈ zw_tbl, w.before _ s = true := fun w h => hts w (List.mem_cons_of_mem _ h)
  have hown : s.vm.findClass R_Mo = some m.cls := findClass_of_methodNamed B.named
  have hlocks := B.notSynchronized
  subst hsz
  have hD := hD0.self (sz := s.heap.size)
  generalize hAe : va_A (mw cI cJ cG cZ a fi fl ai al) s.heap.size = A at hD ⊢
  have hA : ∀ q : Nat, s.heap.size ≤ q → A q := fun q h => by rw [← hAe]; exact Or.inr h
  have hS : va_S A s.heap s.heap [] := va_S.rf
  have hl := lv_entry ([.ref (a 0), .int p0, .int p1] : List Value) (n := 3) (Nat.le_of_ble_eq_true rfl)
  rw [lg_entry_eq]
  generalize (lg_sl ([.ref (a 0), .int p0, .int p1] : List Value) ++ List.replicate (3 - (lg_sl ([.ref (a 0), .int p0, .int p1] : List Value)).length) Slot.unset).toArray = ls at hl ⊢
  have hl : lv_has ls 3 [(0, .ref (a 0)), (1, .int p0), (2, .int p1)] := hl
  unfold Mo_level_w at hw
  obtain ⟨H, hH⟩ : ∃ H, H = s.heap := ⟨_, rfl⟩
  obtain ⟨locs, hlo⟩ : ∃ q : List Loc, q = [] := ⟨_, rfl⟩
  have hP : va_P (dC, dI) vwCl (mw cI cJ cG cZ a fi fl ai al) H := by rw [hH]; exact hP
  have hS : va_S A s.heap H locs := by rw [hH, hlo]; exact hS
  have key : W p l e (headSpec ws_Mo_level ({ frames := 5, cells := 0, slots := 0, locals := 117 })).room s m ([.ref (a 0), .int p0, .int p1] : List Value).toArray below meth c H locs 0 0 (MQ below (va_Ql (fun r (u : zw_Z) => (zw_k_fi_ai_alr fl K) r u.1 u.2.1 u.2.2.1 u.2.2.2) (fun u t => zw_E (dC, dI) vwCl [(cI, .int), (cJ, .long), (cG, .array .int), (cZ, .boolean)] A (mw cI cJ cG cZ a u.1 u.2.1 u.2.2.1 u.2.2.2) t) A) ([.ref (a 0), .int p0, .int p1] : List Value).toArray s 0 0 A) (F0 m 0 ls []) := by
    refine lv_aload_n hx hb d_Mo_level_0 rfl (lv_at hl 0 rfl) ?_
    refine zw_cv (va_runV (As := []) (rest := []) ⟨hx, hb, hml, hown, hts⟩ (c_Mo_passPlan l dC dI cI cJ cG cZ a H.size fi fl ai al _ hw) (cwV 0 hts (zw_goodV kw_816 kw_818 kw_s24 kw_9 kw_819) rfl rfl rfl hd_Mo_passPlan ⟨Nat.le_of_ble_eq_true rfl, Nat.le_of_ble_eq_true rfl⟩) (zw_preVw (ci := 7) (q0 := 0) hK hN hP hD rfl rfl) rfl rfl hl.1 rfl (lv_room (Nat.le_of_ble_eq_true rfl)) d_Mo_level_1 ⟨Nat.le_of_ble_eq_true rfl, Nat.le_of_ble_eq_true rfl⟩) hD hS hA (fun fi_1 fl_1 ai_1 al_1 H locs hw hP hD hS => ?_)
    obtain ⟨rfl, hw⟩ := hw
    refine lv_aload_n hx hb d_Mo_level_4 rfl (lv_at hl 0 rfl) ?_
    refine lv_iload_n hx hb d_Mo_level_5 rfl (lv_at hl 1 rfl) ?_
    refine lv_iload_n hx hb d_Mo_level_6 rfl (lv_at hl 2 rfl) ?_
    refine vp_callSi (va_Run.run (va_runV (As := [.int p0, .int p1]) (rest := []) ⟨hx, hb, hml, hown, hts⟩ (c_Mo_isThere l dC dI cI cJ cG cZ a fi_1 fl ai_1 al_1 p0 p1 _ hw) (cwV 2 hts (zw_goodV kw_832 kw_834 kw_s28 kw_9 kw_835) rfl rfl rfl hd_Mo_isThere ⟨Nat.le_of_ble_eq_true rfl, Nat.le_of_ble_eq_true rfl⟩) (zw_preV (ci := 7) (q0 := 0) hK hN hP rfl rfl) rfl rfl hl.1 rfl (lv_room (Nat.le_of_ble_eq_true rfl)) d_Mo_level_7 ⟨Nat.le_of_ble_eq_true rfl, Nat.le_of_ble_eq_true rfl⟩)) (fun r7 hw => ?_)
    refine lv_if_eq (tgt := 22) hx hb d_Mo_level_10 (by decide) (fun c10 => ?_) (fun c10 => ?_)
    · have hw := zw_ite_t c10 hw
      refine lv_ldc2 (v := (-1000000000000000000 : Int64)) hx hb hown (hts (.constantLong R_Mo 148 (-1000000000000000000 : Int64)) (by decide +kernel)) d_Mo_level_22 ?_
      exact W.lret (v := (-1000000000000000000 : Int64)) hx hb hr (fun t ht hW => ⟨⟨(-1000000000000000000 : Int64), (fi_1, fl, ai_1, al_1), rfl, ⟨rfl, hw⟩, by rw [ht]; exact hP, va_K.moved hW.alike hK, hD⟩, hS.F ht⟩) hS.2.2 d_Mo_level_25
    · have hw := zw_ite_f c10 hw
      refine lv_aload_n hx hb d_Mo_level_13 rfl (lv_at hl 0 rfl) ?_
      refine lv_iload_n hx hb d_Mo_level_14 rfl (lv_at hl 1 rfl) ?_
      refine lv_iload_n hx hb d_Mo_level_15 rfl (lv_at hl 2 rfl) ?_
      refine vp_callSl (va_Run.run (va_runV (As := [.int p0, .int p1]) (rest := []) ⟨hx, hb, hml, hown, hts⟩ (c_Mo_levelAt l dC dI cI cJ cG cZ a fi_1 fl ai_1 al_1 p0 p1 _ hw) (cwV 2 hts (zw_goodV kw_840 kw_842 kw_s30 kw_9 kw_843) rfl rfl rfl hd_Mo_levelAt ⟨Nat.le_of_ble_eq_true rfl, Nat.le_of_ble_eq_true rfl⟩) (zw_preV (ci := 7) (q0 := 0) hK hN hP rfl rfl) rfl rfl hl.1 rfl (lv_room (Nat.le_of_ble_eq_true rfl)) d_Mo_level_16 ⟨Nat.le_of_ble_eq_true rfl, Nat.le_of_ble_eq_true rfl⟩)) (fun r16 hw => ?_)
      refine lv_goto (tgt := 25) hx hb d_Mo_level_19 (by decide) ?_
      exact W.lret (v := r16) hx hb hr (fun t ht hW => ⟨⟨r16, (fi_1, fl, ai_1, al_1), rfl, ⟨rfl, hw⟩, by rw [ht]; exact hP, va_K.moved hW.alike hK, hD⟩, hS.F ht⟩) hS.2.2 d_Mo_level_25
  rw [hH, hlo] at key
  exact key
def Mo_of_w (fi : Nat → Int32) (fl : Nat → Int64) (ai : Nat → Nat → Int32) (al : Nat → Nat → Int64) (p0 : Int32) (p1 : Int32) (K : Int64 → (Nat → Int32) → (Nat → Nat → Int32) → (Nat → Nat → Int64) → Prop) : Prop :=
  Mo_passPlan_w fi fl ai al  (fun (fi_1 : Nat → Int32) (ai_1 : Nat → Nat → Int32) (al_1 : Nat → Nat → Int64) =>
  Mo_isPart_w fi_1 fl ai_1 al_1 p0 (fun (r6 : Int32) =>
  if r6 = 0 then (
    K (-1000000000000000000 : Int64) fi_1 ai_1 al_1)
  else (
    vp_in p0 6 ∧ (
    if (ai_1 22 p0.toNatClampNeg) < 0 then (
      K (-1000000000000000000 : Int64) fi_1 ai_1 al_1)
    else (
      Mo_in_w p1.toInt64 (0 : Int64) (4 : Int64) (fun (r27 : Int32) =>
      if r27 = 0 then (
        K (-1000000000000000000 : Int64) fi_1 ai_1 al_1)
      else (
        if p1 = (0 : Int32) then (
          Mo_cast_w fi_1 fl ai_1 al_1 p0 (fun (r70 : Int64) =>
          K r70 fi_1 ai_1 al_1))
        else (if p1 = (1 : Int32) then (
          Mo_camber_w fi_1 fl ai_1 al_1 p0 (fun (r76 : Int64) =>
          K r76 fi_1 ai_1 al_1))
        else (if p1 = (2 : Int32) then (
          vp_in p0 6 ∧ (
          K (al_1 14 p0.toNatClampNeg) fi_1 ai_1 al_1))
        else (if p1 = (3 : Int32) then (
          Mo_camber_w fi_1 fl ai_1 al_1 p0 (fun (r89 : Int64) =>
          K (-r89) fi_1 ai_1 al_1))
        else (
          vp_in p0 6 ∧ (
          vp_in (ai_1 22 p0.toNatClampNeg) 40 ∧ (
          K ((ai_1 13 (ai_1 22 p0.toNatClampNeg).toNatClampNeg).toInt64) fi_1 ai_1 al_1)))))))))))))
theorem d_Mo_of_0 : decode b_Mo_of 0 = .ok (.aload_n 0, 1) := by decide +kernel
theorem d_Mo_of_1 : decode b_Mo_of 1 = .ok (.invokevirtual 203, 3) := by decide +kernel
theorem d_Mo_of_4 : decode b_Mo_of 4 = .ok (.aload_n 0, 1) := by decide +kernel
theorem d_Mo_of_5 : decode b_Mo_of 5 = .ok (.iload_n 1, 1) := by decide +kernel
theorem d_Mo_of_6 : decode b_Mo_of 6 = .ok (.invokevirtual 110, 3) := by decide +kernel
theorem d_Mo_of_9 : decode b_Mo_of 9 = .ok (.ifCond .eq (24), 3) := by decide +kernel
theorem d_Mo_of_12 : decode b_Mo_of 12 = .ok (.aload_n 0, 1) := by decide +kernel
theorem d_Mo_of_13 : decode b_Mo_of 13 = .ok (.getfield 82, 3) := by decide +kernel
theorem d_Mo_of_16 : decode b_Mo_of 16 = .ok (.iload_n 1, 1) := by decide +kernel
theorem d_Mo_of_17 : decode b_Mo_of 17 = .ok (.iaload, 1) := by decide +kernel
theorem d_Mo_of_18 : decode b_Mo_of 18 = .ok (.ifCond .lt (15), 3) := by decide +kernel
theorem d_Mo_of_21 : decode b_Mo_of 21 = .ok (.iload_n 2, 1) := by decide +kernel
theorem d_Mo_of_22 : decode b_Mo_of 22 = .ok (.i2l, 1) := by decide +kernel
theorem d_Mo_of_23 : decode b_Mo_of 23 = .ok (.lconst 0, 1) := by decide +kernel
theorem d_Mo_of_24 : decode b_Mo_of 24 = .ok (.ldc2_w 213, 3) := by decide +kernel
theorem d_Mo_of_27 : decode b_Mo_of 27 = .ok (.invokestatic 103, 3) := by decide +kernel
theorem d_Mo_of_30 : decode b_Mo_of 30 = .ok (.ifCond .ne (7), 3) := by decide +kernel
theorem d_Mo_of_33 : decode b_Mo_of 33 = .ok (.ldc2_w 148, 3) := by decide +kernel
theorem d_Mo_of_36 : decode b_Mo_of 36 = .ok (.lreturn, 1) := by decide +kernel
theorem d_Mo_of_37 : decode b_Mo_of 37 = .ok (.iload_n 2, 1) := by decide +kernel
theorem d_Mo_of_38 : decode b_Mo_of 38 = .ok (.tableswitch (56) (0) (3) #[30, 36, 42, 49], 30) := by decide +kernel
theorem d_Mo_of_68 : decode b_Mo_of 68 = .ok (.aload_n 0, 1) := by decide +kernel
theorem d_Mo_of_69 : decode b_Mo_of 69 = .ok (.iload_n 1, 1) := by decide +kernel
theorem d_Mo_of_70 : decode b_Mo_of 70 = .ok (.invokevirtual 200, 3) := by decide +kernel
theorem d_Mo_of_73 : decode b_Mo_of 73 = .ok (.lreturn, 1) := by decide +kernel
theorem d_Mo_of_74 : decode b_Mo_of 74 = .ok (.aload_n 0, 1) := by decide +kernel
theorem d_Mo_of_75 : decode b_Mo_of 75 = .ok (.iload_n 1, 1) := by decide +kernel
theorem d_Mo_of_76 : decode b_Mo_of 76 = .ok (.invokevirtual 187, 3) := by decide +kernel
theorem d_Mo_of_79 : decode b_Mo_of 79 = .ok (.lreturn, 1) := by decide +kernel
theorem d_Mo_of_80 : decode b_Mo_of 80 = .ok (.aload_n 0, 1) := by decide +kernel
theorem d_Mo_of_81 : decode b_Mo_of 81 = .ok (.getfield 50, 3) := by decide +kernel
theorem d_Mo_of_84 : decode b_Mo_of 84 = .ok (.iload_n 1, 1) := by decide +kernel
theorem d_Mo_of_85 : decode b_Mo_of 85 = .ok (.laload, 1) := by decide +kernel
theorem d_Mo_of_86 : decode b_Mo_of 86 = .ok (.lreturn, 1) := by decide +kernel
theorem d_Mo_of_87 : decode b_Mo_of 87 = .ok (.aload_n 0, 1) := by decide +kernel
theorem d_Mo_of_88 : decode b_Mo_of 88 = .ok (.iload_n 1, 1) := by decide +kernel
theorem d_Mo_of_89 : decode b_Mo_of 89 = .ok (.invokevirtual 187, 3) := by decide +kernel
theorem d_Mo_of_92 : decode b_Mo_of 92 = .ok (.lneg, 1) := by decide +kernel
theorem d_Mo_of_93 : decode b_Mo_of 93 = .ok (.lreturn, 1) := by decide +kernel
theorem d_Mo_of_94 : decode b_Mo_of 94 = .ok (.aload_n 0, 1) := by decide +kernel
theorem d_Mo_of_95 : decode b_Mo_of 95 = .ok (.getfield 47, 3) := by decide +kernel
theorem d_Mo_of_98 : decode b_Mo_of 98 = .ok (.aload_n 0, 1) := by decide +kernel
theorem d_Mo_of_99 : decode b_Mo_of 99 = .ok (.getfield 82, 3) := by decide +kernel
theorem d_Mo_of_102 : decode b_Mo_of 102 = .ok (.iload_n 1, 1) := by decide +kernel
theorem d_Mo_of_103 : decode b_Mo_of 103 = .ok (.iaload, 1) := by decide +kernel
theorem d_Mo_of_104 : decode b_Mo_of 104 = .ok (.iaload, 1) := by decide +kernel
theorem d_Mo_of_105 : decode b_Mo_of 105 = .ok (.i2l, 1) := by decide +kernel
theorem d_Mo_of_106 : decode b_Mo_of 106 = .ok (.lreturn, 1) := by decide +kernel
set_option maxHeartbeats 4000000 in
set_option maxRecDepth 100000 in
theorem c_Mo_of (l : Launch) (dC : Nat → ClassId) (dI : Nat → Nat → Nat) (cI cJ cG cZ : ClassId) (a : Nat → Nat) (sz : Nat) (fi : Nat → Int32) (fl : Nat → Int64) (ai : Nat → Nat → Int32) (al : Nat → Nat → Int64) (p0 : Int32) (p1 : Int32) (K : Int64 → (Nat → Int32) → (Nat → Nat → Int32) → (Nat → Nat → Int64) → Prop) (hw : Mo_of_w fi fl ai al p0 p1 K) : Met l y_Mo_of ws_Mo_of ({ frames := 4, cells := 0, slots := 0, locals := 95 }) (va_Pc [.ref (a 0), .int p0, .int p1] (zw_Bw (dC, dI) vwCl [(cI, .int), (cJ, .long), (cG, .array .int), (cZ, .boolean)] (mw cI cJ cG cZ a fi fl ai al) sz)) (va_Ql (fun r (u : zw_Z) => (zw_k_fi_ai_alr fl K) r u.1 u.2.1 u.2.2.1 u.2.2.2) (fun u t => zw_E (dC, dI) vwCl [(cI, .int), (cJ, .long), (cG, .array .int), (cZ, .boolean)] (va_A (mw cI cJ cG cZ a fi fl ai al) sz) (mw cI cJ cG cZ a u.1 u.2.1 u.2.2.1 u.2.2.2) t) (va_A (mw cI cJ cG cZ a fi fl ai al) sz)) 0 0 (va_A (mw cI cJ cG cZ a fi fl ai al) sz) := by
  refine Met.ofW (cc := b_Mo_of) (maxL := 3) (ret := (Option.some FieldType.long)) (by decide) rfl ?_
  intro p e s m args below meth c s₁ B hml hv
  obtain ⟨rfl, hsz, hP, hK, hD0, hN⟩ := hv
  have hx := B.exec
  have hb := B.bytes
  have hr := B.returns
  have hts := atoms_spec (ws := ws_Mo_of) B.pre
  have ht : ∀ w ∈ zw_tbl, w.before _ s = true := fun w h => hts w (List.mem_cons_of_mem _ h)
  have hown : s.vm.findClass R_Mo = some m.cls := findClass_of_methodNamed B.named
  have hlocks := B.notSynchronized
  subst hsz
  have hD := hD0.self (sz := s.heap.size)
  generalize hAe : va_A (mw cI cJ cG cZ a fi fl ai al) s.heap.size = A at hD ⊢
  have hA : ∀ q : Nat, s.heap.size ≤ q → A q := fun q h => by rw [← hAe]; exact Or.inr h
  have hS : va_S A s.heap s.heap [] := va_S.rf
  have hl := lv_entry ([.ref (a 0), .int p0, .int p1] : List Value) (n := 3) (Nat.le_of_ble_eq_true rfl)
  rw [lg_entry_eq]
  generalize (lg_sl ([.ref (a 0), .int p0, .int p1] : List Value) ++ List.replicate (3 - (lg_sl ([.ref (a 0), .int p0, .int p1] : List Value)).length) Slot.unset).toArray = ls at hl ⊢
  have hl : lv_has ls 3 [(0, .ref (a 0)), (1, .int p0), (2, .int p1)] := hl
  unfold Mo_of_w at hw
  obtain ⟨H, hH⟩ : ∃ H, H = s.heap := ⟨_, rfl⟩
  obtain ⟨locs, hlo⟩ : ∃ q : List Loc, q = [] := ⟨_, rfl⟩
  have hP : va_P (dC, dI) vwCl (mw cI cJ cG cZ a fi fl ai al) H := by rw [hH]; exact hP
  have hS : va_S A s.heap H locs := by rw [hH, hlo]; exact hS
  have key : W p l e (headSpec ws_Mo_of ({ frames := 4, cells := 0, slots := 0, locals := 95 })).room s m ([.ref (a 0), .int p0, .int p1] : List Value).toArray below meth c H locs 0 0 (MQ below (va_Ql (fun r (u : zw_Z) => (zw_k_fi_ai_alr fl K) r u.1 u.2.1 u.2.2.1 u.2.2.2) (fun u t => zw_E (dC, dI) vwCl [(cI, .int), (cJ, .long), (cG, .array .int), (cZ, .boolean)] A (mw cI cJ cG cZ a u.1 u.2.1 u.2.2.1 u.2.2.2) t) A) ([.ref (a 0), .int p0, .int p1] : List Value).toArray s 0 0 A) (F0 m 0 ls []) := by
    refine lv_aload_n hx hb d_Mo_of_0 rfl (lv_at hl 0 rfl) ?_
    refine zw_cv (va_runV (As := []) (rest := []) ⟨hx, hb, hml, hown, hts⟩ (c_Mo_passPlan l dC dI cI cJ cG cZ a H.size fi fl ai al _ hw) (cwV 0 hts (zw_goodV kw_816 kw_818 kw_s24 kw_9 kw_819) rfl rfl rfl hd_Mo_passPlan ⟨Nat.le_of_ble_eq_true rfl, Nat.le_of_ble_eq_true rfl⟩) (zw_preVw (ci := 7) (q0 := 0) hK hN hP hD rfl rfl) rfl rfl hl.1 rfl (lv_room (Nat.le_of_ble_eq_true rfl)) d_Mo_of_1 ⟨Nat.le_of_ble_eq_true rfl, Nat.le_of_ble_eq_true rfl⟩) hD hS hA (fun fi_1 fl_1 ai_1 al_1 H locs hw hP hD hS => ?_)
    obtain ⟨rfl, hw⟩ := hw
    refine lv_aload_n hx hb d_Mo_of_4 rfl (lv_at hl 0 rfl) ?_
    refine lv_iload_n hx hb d_Mo_of_5 rfl (lv_at hl 1 rfl) ?_
    refine vp_callSi (va_Run.run (va_runV (As := [.int p0]) (rest := []) ⟨hx, hb, hml, hown, hts⟩ (c_Mo_isPart l dC dI cI cJ cG cZ a fi_1 fl ai_1 al_1 p0 _ hw) (cwV 1 hts (zw_goodV kw_727 kw_729 kw_s16 kw_9 kw_730) rfl rfl rfl hd_Mo_isPart ⟨Nat.le_of_ble_eq_true rfl, Nat.le_of_ble_eq_true rfl⟩) (zw_preV (ci := 7) (q0 := 0) hK hN hP rfl rfl) rfl rfl hl.1 rfl (lv_room (Nat.le_of_ble_eq_true rfl)) d_Mo_of_6 ⟨Nat.le_of_ble_eq_true rfl, Nat.le_of_ble_eq_true rfl⟩)) (fun r6 hw => ?_)
    refine lv_if_eq (tgt := 33) hx hb d_Mo_of_9 (by decide) (fun c9 => ?_) (fun c9 => ?_)
    · have hw := zw_ite_t c9 hw
      refine lv_ldc2 (v := (-1000000000000000000 : Int64)) hx hb hown (hts (.constantLong R_Mo 148 (-1000000000000000000 : Int64)) (by decide +kernel)) d_Mo_of_33 ?_
      exact W.lret (v := (-1000000000000000000 : Int64)) hx hb hr (fun t ht hW => ⟨⟨(-1000000000000000000 : Int64), (fi_1, fl, ai_1, al_1), rfl, ⟨rfl, hw⟩, by rw [ht]; exact hP, va_K.moved hW.alike hK, hD⟩, hS.F ht⟩) hS.2.2 d_Mo_of_36
    · have hw := zw_ite_f c9 hw
      refine lv_aload_n hx hb d_Mo_of_12 rfl (lv_at hl 0 rfl) ?_
      refine va_get (D := (dC, dI)) (ci := 7) (v := .ref (a 22)) (C := R_Mo) (T := T_Mo) (N := 36) hx hb ht in_Mo hown hK hP 0 rfl rfl 30 (by decide) (ht _ kw_643) (fun _ h9 => h9) rfl d_Mo_of_13 ?_
      refine lv_iload_n hx hb d_Mo_of_16 rfl (lv_at hl 1 rfl) ?_
      obtain ⟨h17, hw⟩ := hw
      refine va_iald (f := ai_1 22) hx hb hK hP 22 0 rfl rfl h17 d_Mo_of_17 ?_
      refine lv_if_lt (tgt := 33) hx hb d_Mo_of_18 (by decide) (fun c18 => ?_) (fun c18 => ?_)
      · have hw := zw_ite_t c18 hw
        refine lv_ldc2 (v := (-1000000000000000000 : Int64)) hx hb hown (hts (.constantLong R_Mo 148 (-1000000000000000000 : Int64)) (by decide +kernel)) d_Mo_of_33 ?_
        exact W.lret (v := (-1000000000000000000 : Int64)) hx hb hr (fun t ht hW => ⟨⟨(-1000000000000000000 : Int64), (fi_1, fl, ai_1, al_1), rfl, ⟨rfl, hw⟩, by rw [ht]; exact hP, va_K.moved hW.alike hK, hD⟩, hS.F ht⟩) hS.2.2 d_Mo_of_36
      · have hw := zw_ite_f c18 hw
        refine lv_iload_n hx hb d_Mo_of_21 rfl (lv_at hl 2 rfl) ?_
        refine lv_i2l hx hb d_Mo_of_22 rfl ?_
        refine lv_lconst (v := (0 : Int64)) hx hb d_Mo_of_23 (by decide) ?_
        refine lv_ldc2 (v := (4 : Int64)) hx hb hown (hts (.constantLong R_Mo 213 (4 : Int64)) (by decide +kernel)) d_Mo_of_24 ?_
        refine vp_callSi (va_Run.run (va_runS (As := [.long p1.toInt64, .long (0 : Int64), .long (4 : Int64)]) (rest := []) ⟨hx, hb, hml, hown, hts⟩ (c_Mo_in l p1.toInt64 (0 : Int64) (4 : Int64) _ hw) (va_cwS 3 hts (zw_goodS kw_731 kw_732 kw_9 kw_733) rfl rfl rfl hd_Mo_in.2 ⟨Nat.le_of_ble_eq_true rfl, Nat.le_of_ble_eq_true rfl⟩) zw_preS0 rfl rfl hl.1 rfl (lv_room (Nat.le_of_ble_eq_true rfl)) d_Mo_of_27 ⟨Nat.le_of_ble_eq_true rfl, Nat.le_of_ble_eq_true rfl⟩)) (fun r27 hw => ?_)
        refine lv_if_ne (tgt := 37) hx hb d_Mo_of_30 (by decide) (fun c30 => ?_) (fun c30 => ?_)
        · have hw := zw_ite_f c30 hw
          refine lv_iload_n hx hb d_Mo_of_37 rfl (lv_at hl 2 rfl) ?_
          by_cases c38_0 : p1 = (0 : Int32)
          · have hw := zw_ite_t c38_0 hw
            refine lv_tableIn (off := 30) (tgt := 68) hx hb d_Mo_of_38 (by rw [c38_0]; decide) (by rw [c38_0]; decide) (by rw [c38_0]; rfl) (by decide) ?_
            refine lv_aload_n hx hb d_Mo_of_68 rfl (lv_at hl 0 rfl) ?_
            refine lv_iload_n hx hb d_Mo_of_69 rfl (lv_at hl 1 rfl) ?_
            refine vp_callSl (va_Run.run (va_runV (As := [.int p0]) (rest := []) ⟨hx, hb, hml, hown, hts⟩ (c_Mo_cast l dC dI cI cJ cG cZ a fi_1 fl ai_1 al_1 p0 _ hw) (cwV 1 hts (zw_goodV kw_844 kw_846 kw_s31 kw_9 kw_847) rfl rfl rfl hd_Mo_cast ⟨Nat.le_of_ble_eq_true rfl, Nat.le_of_ble_eq_true rfl⟩) (zw_preV (ci := 7) (q0 := 0) hK hN hP rfl rfl) rfl rfl hl.1 rfl (lv_room (Nat.le_of_ble_eq_true rfl)) d_Mo_of_70 ⟨Nat.le_of_ble_eq_true rfl, Nat.le_of_ble_eq_true rfl⟩)) (fun r70 hw => ?_)
            exact W.lret (v := r70) hx hb hr (fun t ht hW => ⟨⟨r70, (fi_1, fl, ai_1, al_1), rfl, ⟨rfl, hw⟩, by rw [ht]; exact hP, va_K.moved hW.alike hK, hD⟩, hS.F ht⟩) hS.2.2 d_Mo_of_73
          · have hw := zw_ite_f c38_0 hw
            by_cases c38_1 : p1 = (1 : Int32)
            · have hw := zw_ite_t c38_1 hw
              refine lv_tableIn (off := 36) (tgt := 74) hx hb d_Mo_of_38 (by rw [c38_1]; decide) (by rw [c38_1]; decide) (by rw [c38_1]; rfl) (by decide) ?_
              refine lv_aload_n hx hb d_Mo_of_74 rfl (lv_at hl 0 rfl) ?_
              refine lv_iload_n hx hb d_Mo_of_75 rfl (lv_at hl 1 rfl) ?_
              refine vp_callSl (va_Run.run (va_runV (As := [.int p0]) (rest := []) ⟨hx, hb, hml, hown, hts⟩ (c_Mo_camber l dC dI cI cJ cG cZ a fi_1 fl ai_1 al_1 p0 _ hw) (cwV 1 hts (zw_goodV kw_849 kw_851 kw_s32 kw_9 kw_852) rfl rfl rfl hd_Mo_camber ⟨Nat.le_of_ble_eq_true rfl, Nat.le_of_ble_eq_true rfl⟩) (zw_preV (ci := 7) (q0 := 0) hK hN hP rfl rfl) rfl rfl hl.1 rfl (lv_room (Nat.le_of_ble_eq_true rfl)) d_Mo_of_76 ⟨Nat.le_of_ble_eq_true rfl, Nat.le_of_ble_eq_true rfl⟩)) (fun r76 hw => ?_)
              exact W.lret (v := r76) hx hb hr (fun t ht hW => ⟨⟨r76, (fi_1, fl, ai_1, al_1), rfl, ⟨rfl, hw⟩, by rw [ht]; exact hP, va_K.moved hW.alike hK, hD⟩, hS.F ht⟩) hS.2.2 d_Mo_of_79
            · have hw := zw_ite_f c38_1 hw
              by_cases c38_2 : p1 = (2 : Int32)
              · have hw := zw_ite_t c38_2 hw
                refine lv_tableIn (off := 42) (tgt := 80) hx hb d_Mo_of_38 (by rw [c38_2]; decide) (by rw [c38_2]; decide) (by rw [c38_2]; rfl) (by decide) ?_
                refine lv_aload_n hx hb d_Mo_of_80 rfl (lv_at hl 0 rfl) ?_
                refine va_get (D := (dC, dI)) (ci := 7) (v := .ref (a 14)) (C := R_Mo) (T := T_Mo) (N := 36) hx hb ht in_Mo hown hK hP 0 rfl rfl 17 (by decide) (ht _ kw_630) (fun _ h9 => h9) rfl d_Mo_of_81 ?_
                refine lv_iload_n hx hb d_Mo_of_84 rfl (lv_at hl 1 rfl) ?_
                obtain ⟨h85, hw⟩ := hw
                refine va_lald (f := al_1 14) hx hb hK hP 14 1 rfl rfl h85 d_Mo_of_85 ?_
                exact W.lret (v := (al_1 14 p0.toNatClampNeg)) hx hb hr (fun t ht hW => ⟨⟨(al_1 14 p0.toNatClampNeg), (fi_1, fl, ai_1, al_1), rfl, ⟨rfl, hw⟩, by rw [ht]; exact hP, va_K.moved hW.alike hK, hD⟩, hS.F ht⟩) hS.2.2 d_Mo_of_86
              · have hw := zw_ite_f c38_2 hw
                by_cases c38_3 : p1 = (3 : Int32)
                · have hw := zw_ite_t c38_3 hw
                  refine lv_tableIn (off := 49) (tgt := 87) hx hb d_Mo_of_38 (by rw [c38_3]; decide) (by rw [c38_3]; decide) (by rw [c38_3]; rfl) (by decide) ?_
                  refine lv_aload_n hx hb d_Mo_of_87 rfl (lv_at hl 0 rfl) ?_
                  refine lv_iload_n hx hb d_Mo_of_88 rfl (lv_at hl 1 rfl) ?_
                  refine vp_callSl (va_Run.run (va_runV (As := [.int p0]) (rest := []) ⟨hx, hb, hml, hown, hts⟩ (c_Mo_camber l dC dI cI cJ cG cZ a fi_1 fl ai_1 al_1 p0 _ hw) (cwV 1 hts (zw_goodV kw_849 kw_851 kw_s32 kw_9 kw_852) rfl rfl rfl hd_Mo_camber ⟨Nat.le_of_ble_eq_true rfl, Nat.le_of_ble_eq_true rfl⟩) (zw_preV (ci := 7) (q0 := 0) hK hN hP rfl rfl) rfl rfl hl.1 rfl (lv_room (Nat.le_of_ble_eq_true rfl)) d_Mo_of_89 ⟨Nat.le_of_ble_eq_true rfl, Nat.le_of_ble_eq_true rfl⟩)) (fun r89 hw => ?_)
                  refine lv_lneg hx hb d_Mo_of_92 ?_
                  exact W.lret (v := (-r89)) hx hb hr (fun t ht hW => ⟨⟨(-r89), (fi_1, fl, ai_1, al_1), rfl, ⟨rfl, hw⟩, by rw [ht]; exact hP, va_K.moved hW.alike hK, hD⟩, hS.F ht⟩) hS.2.2 d_Mo_of_93
                · have hw := zw_ite_f c38_3 hw
                  refine lv_tableOut (tgt := 94) hx hb d_Mo_of_38 (by have := lv_neT (a := 0) c38_0 (by decide); have := lv_neT (a := 1) c38_1 (by decide); have := lv_neT (a := 2) c38_2 (by decide); have := lv_neT (a := 3) c38_3 (by decide); omega) (by decide) ?_
                  refine lv_aload_n hx hb d_Mo_of_94 rfl (lv_at hl 0 rfl) ?_
                  refine va_get (D := (dC, dI)) (ci := 7) (v := .ref (a 13)) (C := R_Mo) (T := T_Mo) (N := 36) hx hb ht in_Mo hown hK hP 0 rfl rfl 15 (by decide) (ht _ kw_628) (fun _ h9 => h9) rfl d_Mo_of_95 ?_
                  refine lv_aload_n hx hb d_Mo_of_98 rfl (lv_at hl 0 rfl) ?_
                  refine va_get (D := (dC, dI)) (ci := 7) (v := .ref (a 22)) (C := R_Mo) (T := T_Mo) (N := 36) hx hb ht in_Mo hown hK hP 0 rfl rfl 30 (by decide) (ht _ kw_643) (fun _ h9 => h9) rfl d_Mo_of_99 ?_
                  refine lv_iload_n hx hb d_Mo_of_102 rfl (lv_at hl 1 rfl) ?_
                  obtain ⟨h103, hw⟩ := hw
                  refine va_iald (f := ai_1 22) hx hb hK hP 22 0 rfl rfl h103 d_Mo_of_103 ?_
                  obtain ⟨h104, hw⟩ := hw
                  refine va_iald (f := ai_1 13) hx hb hK hP 13 0 rfl rfl h104 d_Mo_of_104 ?_
                  refine lv_i2l hx hb d_Mo_of_105 rfl ?_
                  exact W.lret (v := (ai_1 13 (ai_1 22 p0.toNatClampNeg).toNatClampNeg).toInt64) hx hb hr (fun t ht hW => ⟨⟨(ai_1 13 (ai_1 22 p0.toNatClampNeg).toNatClampNeg).toInt64, (fi_1, fl, ai_1, al_1), rfl, ⟨rfl, hw⟩, by rw [ht]; exact hP, va_K.moved hW.alike hK, hD⟩, hS.F ht⟩) hS.2.2 d_Mo_of_106
        · have hw := zw_ite_t c30 hw
          refine lv_ldc2 (v := (-1000000000000000000 : Int64)) hx hb hown (hts (.constantLong R_Mo 148 (-1000000000000000000 : Int64)) (by decide +kernel)) d_Mo_of_33 ?_
          exact W.lret (v := (-1000000000000000000 : Int64)) hx hb hr (fun t ht hW => ⟨⟨(-1000000000000000000 : Int64), (fi_1, fl, ai_1, al_1), rfl, ⟨rfl, hw⟩, by rw [ht]; exact hP, va_K.moved hW.alike hK, hD⟩, hS.F ht⟩) hS.2.2 d_Mo_of_36
  rw [hH, hlo] at key
  exact key
