def Mo_holds_w (fi : Nat → Int32) (fl : Nat → Int64) (ai : Nat → Nat → Int32) (al : Nat → Nat → Int64) (p0 : Int32) (p1 : Int32) (K : Int32 → Prop) : Prop :=
  vp_in p0 8 ∧ (
  zw_nm (ai 16 p0.toNatClampNeg) (fun (v6 : Int32) =>
  vp_in p0 8 ∧ (
  if (ai 15 p0.toNatClampNeg) = (2 : Int32) then (
    Mo_carriedAt_w fi fl ai al v6 p1 (fun (r20 : Int64) =>
    vp_in p0 8 ∧ (
    vp_in p0 8 ∧ (
    Mo_in_w r20 ((1000 : Int64) * (ai 17 p0.toNatClampNeg).toInt64) ((1000 : Int64) * (ai 18 p0.toNatClampNeg).toInt64) (fun (r45 : Int32) =>
    zw_bool r45 ∧ (K r45))))))
  else (
    Mo_isThere_w fi fl ai al v6 p1 (fun (r52 : Int32) =>
    if r52 = 0 then (
      K (1 : Int32))
    else (
      vp_in p0 8 ∧ (
      zw_jn0 (
      Mo_levelAt_w fi fl ai al v6 p1 (fun (r84 : Int64) =>
      vp_in p0 8 ∧ (
      zw_jn1 (fun (y109_0 : Int64) =>
      zw_nm (r84 - y109_0) (fun (v110 : Int64) =>
      vp_in p0 8 ∧ (
      vp_in p0 8 ∧ (
      Mo_in_w v110 ((1000000000 : Int64) * (ai 17 p0.toNatClampNeg).toInt64) ((1000000000 : Int64) * (ai 18 p0.toNatClampNeg).toInt64) (fun (r136 : Int32) =>
      zw_bool r136 ∧ (K r136)))))) (fun J109 =>
      if (ai 15 p0.toNatClampNeg) = (1 : Int32) then (
        Mo_levelAt_w fi fl ai al (v6 + (1 : Int32)) p1 (fun (r102 : Int64) =>
        J109 r102))
      else (
        J109 (0 : Int64)))))) (fun J81 =>
      if (ai 15 p0.toNatClampNeg) = (1 : Int32) then (
        Mo_isThere_w fi fl ai al (v6 + (1 : Int32)) p1 (fun (r73 : Int32) =>
        if r73 = 0 then (
          K (1 : Int32))
        else (
          J81)))
      else (
        J81)))))))))
theorem d_Mo_holds_0 : decode b_Mo_holds 0 = .ok (.aload_n 0, 1) := by decide +kernel
theorem d_Mo_holds_1 : decode b_Mo_holds 1 = .ok (.getfield 64, 3) := by decide +kernel
theorem d_Mo_holds_4 : decode b_Mo_holds 4 = .ok (.iload_n 1, 1) := by decide +kernel
theorem d_Mo_holds_5 : decode b_Mo_holds 5 = .ok (.iaload, 1) := by decide +kernel
theorem d_Mo_holds_6 : decode b_Mo_holds 6 = .ok (.istore_n 3, 1) := by decide +kernel
theorem d_Mo_holds_7 : decode b_Mo_holds 7 = .ok (.aload_n 0, 1) := by decide +kernel
theorem d_Mo_holds_8 : decode b_Mo_holds 8 = .ok (.getfield 61, 3) := by decide +kernel
theorem d_Mo_holds_11 : decode b_Mo_holds 11 = .ok (.iload_n 1, 1) := by decide +kernel
theorem d_Mo_holds_12 : decode b_Mo_holds 12 = .ok (.iaload, 1) := by decide +kernel
theorem d_Mo_holds_13 : decode b_Mo_holds 13 = .ok (.iconst 2, 1) := by decide +kernel
theorem d_Mo_holds_14 : decode b_Mo_holds 14 = .ok (.if_icmp .ne (35), 3) := by decide +kernel
theorem d_Mo_holds_17 : decode b_Mo_holds 17 = .ok (.aload_n 0, 1) := by decide +kernel
theorem d_Mo_holds_18 : decode b_Mo_holds 18 = .ok (.iload_n 3, 1) := by decide +kernel
theorem d_Mo_holds_19 : decode b_Mo_holds 19 = .ok (.iload_n 2, 1) := by decide +kernel
theorem d_Mo_holds_20 : decode b_Mo_holds 20 = .ok (.invokevirtual 215, 3) := by decide +kernel
theorem d_Mo_holds_23 : decode b_Mo_holds 23 = .ok (.ldc2_w 114, 3) := by decide +kernel
theorem d_Mo_holds_26 : decode b_Mo_holds 26 = .ok (.aload_n 0, 1) := by decide +kernel
theorem d_Mo_holds_27 : decode b_Mo_holds 27 = .ok (.getfield 67, 3) := by decide +kernel
theorem d_Mo_holds_30 : decode b_Mo_holds 30 = .ok (.iload_n 1, 1) := by decide +kernel
theorem d_Mo_holds_31 : decode b_Mo_holds 31 = .ok (.iaload, 1) := by decide +kernel
theorem d_Mo_holds_32 : decode b_Mo_holds 32 = .ok (.i2l, 1) := by decide +kernel
theorem d_Mo_holds_33 : decode b_Mo_holds 33 = .ok (.lmul, 1) := by decide +kernel
theorem d_Mo_holds_34 : decode b_Mo_holds 34 = .ok (.ldc2_w 114, 3) := by decide +kernel
theorem d_Mo_holds_37 : decode b_Mo_holds 37 = .ok (.aload_n 0, 1) := by decide +kernel
theorem d_Mo_holds_38 : decode b_Mo_holds 38 = .ok (.getfield 70, 3) := by decide +kernel
theorem d_Mo_holds_41 : decode b_Mo_holds 41 = .ok (.iload_n 1, 1) := by decide +kernel
theorem d_Mo_holds_42 : decode b_Mo_holds 42 = .ok (.iaload, 1) := by decide +kernel
theorem d_Mo_holds_43 : decode b_Mo_holds 43 = .ok (.i2l, 1) := by decide +kernel
theorem d_Mo_holds_44 : decode b_Mo_holds 44 = .ok (.lmul, 1) := by decide +kernel
theorem d_Mo_holds_45 : decode b_Mo_holds 45 = .ok (.invokestatic 103, 3) := by decide +kernel
theorem d_Mo_holds_48 : decode b_Mo_holds 48 = .ok (.ireturn, 1) := by decide +kernel
theorem d_Mo_holds_49 : decode b_Mo_holds 49 = .ok (.aload_n 0, 1) := by decide +kernel
theorem d_Mo_holds_50 : decode b_Mo_holds 50 = .ok (.iload_n 3, 1) := by decide +kernel
theorem d_Mo_holds_51 : decode b_Mo_holds 51 = .ok (.iload_n 2, 1) := by decide +kernel
theorem d_Mo_holds_52 : decode b_Mo_holds 52 = .ok (.invokevirtual 206, 3) := by decide +kernel
theorem d_Mo_holds_55 : decode b_Mo_holds 55 = .ok (.ifCond .eq (24), 3) := by decide +kernel
theorem d_Mo_holds_58 : decode b_Mo_holds 58 = .ok (.aload_n 0, 1) := by decide +kernel
theorem d_Mo_holds_59 : decode b_Mo_holds 59 = .ok (.getfield 61, 3) := by decide +kernel
theorem d_Mo_holds_62 : decode b_Mo_holds 62 = .ok (.iload_n 1, 1) := by decide +kernel
theorem d_Mo_holds_63 : decode b_Mo_holds 63 = .ok (.iaload, 1) := by decide +kernel
theorem d_Mo_holds_64 : decode b_Mo_holds 64 = .ok (.iconst 1, 1) := by decide +kernel
theorem d_Mo_holds_65 : decode b_Mo_holds 65 = .ok (.if_icmp .ne (16), 3) := by decide +kernel
theorem d_Mo_holds_68 : decode b_Mo_holds 68 = .ok (.aload_n 0, 1) := by decide +kernel
theorem d_Mo_holds_69 : decode b_Mo_holds 69 = .ok (.iload_n 3, 1) := by decide +kernel
theorem d_Mo_holds_70 : decode b_Mo_holds 70 = .ok (.iconst 1, 1) := by decide +kernel
theorem d_Mo_holds_71 : decode b_Mo_holds 71 = .ok (.iadd, 1) := by decide +kernel
theorem d_Mo_holds_72 : decode b_Mo_holds 72 = .ok (.iload_n 2, 1) := by decide +kernel
theorem d_Mo_holds_73 : decode b_Mo_holds 73 = .ok (.invokevirtual 206, 3) := by decide +kernel
theorem d_Mo_holds_76 : decode b_Mo_holds 76 = .ok (.ifCond .ne (5), 3) := by decide +kernel
theorem d_Mo_holds_79 : decode b_Mo_holds 79 = .ok (.iconst 1, 1) := by decide +kernel
theorem d_Mo_holds_80 : decode b_Mo_holds 80 = .ok (.ireturn, 1) := by decide +kernel
theorem d_Mo_holds_81 : decode b_Mo_holds 81 = .ok (.aload_n 0, 1) := by decide +kernel
theorem d_Mo_holds_82 : decode b_Mo_holds 82 = .ok (.iload_n 3, 1) := by decide +kernel
theorem d_Mo_holds_83 : decode b_Mo_holds 83 = .ok (.iload_n 2, 1) := by decide +kernel
theorem d_Mo_holds_84 : decode b_Mo_holds 84 = .ok (.invokevirtual 209, 3) := by decide +kernel
theorem d_Mo_holds_87 : decode b_Mo_holds 87 = .ok (.aload_n 0, 1) := by decide +kernel
theorem d_Mo_holds_88 : decode b_Mo_holds 88 = .ok (.getfield 61, 3) := by decide +kernel
theorem d_Mo_holds_91 : decode b_Mo_holds 91 = .ok (.iload_n 1, 1) := by decide +kernel
theorem d_Mo_holds_92 : decode b_Mo_holds 92 = .ok (.iaload, 1) := by decide +kernel
theorem d_Mo_holds_93 : decode b_Mo_holds 93 = .ok (.iconst 1, 1) := by decide +kernel
theorem d_Mo_holds_94 : decode b_Mo_holds 94 = .ok (.if_icmp .ne (14), 3) := by decide +kernel
theorem d_Mo_holds_97 : decode b_Mo_holds 97 = .ok (.aload_n 0, 1) := by decide +kernel
theorem d_Mo_holds_98 : decode b_Mo_holds 98 = .ok (.iload_n 3, 1) := by decide +kernel
theorem d_Mo_holds_99 : decode b_Mo_holds 99 = .ok (.iconst 1, 1) := by decide +kernel
theorem d_Mo_holds_100 : decode b_Mo_holds 100 = .ok (.iadd, 1) := by decide +kernel
theorem d_Mo_holds_101 : decode b_Mo_holds 101 = .ok (.iload_n 2, 1) := by decide +kernel
theorem d_Mo_holds_102 : decode b_Mo_holds 102 = .ok (.invokevirtual 209, 3) := by decide +kernel
theorem d_Mo_holds_105 : decode b_Mo_holds 105 = .ok (.goto (4), 3) := by decide +kernel
theorem d_Mo_holds_108 : decode b_Mo_holds 108 = .ok (.lconst 0, 1) := by decide +kernel
theorem d_Mo_holds_109 : decode b_Mo_holds 109 = .ok (.lsub, 1) := by decide +kernel
theorem d_Mo_holds_110 : decode b_Mo_holds 110 = .ok (.lstore 4, 2) := by decide +kernel
theorem d_Mo_holds_112 : decode b_Mo_holds 112 = .ok (.lload 4, 2) := by decide +kernel
theorem d_Mo_holds_114 : decode b_Mo_holds 114 = .ok (.ldc2_w 185, 3) := by decide +kernel
theorem d_Mo_holds_117 : decode b_Mo_holds 117 = .ok (.aload_n 0, 1) := by decide +kernel
theorem d_Mo_holds_118 : decode b_Mo_holds 118 = .ok (.getfield 67, 3) := by decide +kernel
theorem d_Mo_holds_121 : decode b_Mo_holds 121 = .ok (.iload_n 1, 1) := by decide +kernel
theorem d_Mo_holds_122 : decode b_Mo_holds 122 = .ok (.iaload, 1) := by decide +kernel
theorem d_Mo_holds_123 : decode b_Mo_holds 123 = .ok (.i2l, 1) := by decide +kernel
theorem d_Mo_holds_124 : decode b_Mo_holds 124 = .ok (.lmul, 1) := by decide +kernel
theorem d_Mo_holds_125 : decode b_Mo_holds 125 = .ok (.ldc2_w 185, 3) := by decide +kernel
theorem d_Mo_holds_128 : decode b_Mo_holds 128 = .ok (.aload_n 0, 1) := by decide +kernel
theorem d_Mo_holds_129 : decode b_Mo_holds 129 = .ok (.getfield 70, 3) := by decide +kernel
theorem d_Mo_holds_132 : decode b_Mo_holds 132 = .ok (.iload_n 1, 1) := by decide +kernel
theorem d_Mo_holds_133 : decode b_Mo_holds 133 = .ok (.iaload, 1) := by decide +kernel
theorem d_Mo_holds_134 : decode b_Mo_holds 134 = .ok (.i2l, 1) := by decide +kernel
theorem d_Mo_holds_135 : decode b_Mo_holds 135 = .ok (.lmul, 1) := by decide +kernel
theorem d_Mo_holds_136 : decode b_Mo_holds 136 = .ok (.invokestatic 103, 3) := by decide +kernel
theorem d_Mo_holds_139 : decode b_Mo_holds 139 = .ok (.ireturn, 1) := by decide +kernel
set_option maxHeartbeats 4000000 in
set_option maxRecDepth 100000 in
theorem c_Mo_holds (l : Launch) (dC : Nat → ClassId) (dI : Nat → Nat → Nat) (cI cJ cG cZ : ClassId) (a : Nat → Nat) (fi : Nat → Int32) (fl : Nat → Int64) (ai : Nat → Nat → Int32) (al : Nat → Nat → Int64) (p0 : Int32) (p1 : Int32) (K : Int32 → Prop) (hw : Mo_holds_w fi fl ai al p0 p1 K) : Met l y_Mo_holds ws_Mo_holds ({ frames := 5, cells := 0, slots := 0, locals := 117 }) (va_Pc [.ref (a 0), .int p0, .int p1] (zw_B (dC, dI) vwCl [(cI, .int), (cJ, .long), (cG, .array .int), (cZ, .boolean)] (mw cI cJ cG cZ a fi fl ai al))) (vp_Si K) 0 0 (fun _ => False) := by
  refine Met.ofW (cc := b_Mo_holds) (maxL := 6) (ret := (Option.some FieldType.boolean)) (by decide) rfl ?_
  intro p e s m args below meth c s₁ B hml hv
  obtain ⟨rfl, hP, hK, hN⟩ := hv
  have hx := B.exec
  have hb := B.bytes
  have hr := B.returns
  have hts := atoms_spec (ws := ws_Mo_holds) B.pre
  have ht : ∀ w ∈ zw_tbl, w.before _ s = true := fun w h => hts w (List.mem_cons_of_mem _ h)
  have hown : s.vm.findClass R_Mo = some m.cls := findClass_of_methodNamed B.named
  have hlocks := B.notSynchronized
  have hl := lv_entry ([.ref (a 0), .int p0, .int p1] : List Value) (n := 6) (Nat.le_of_ble_eq_true rfl)
  rw [lg_entry_eq]
  generalize (lg_sl ([.ref (a 0), .int p0, .int p1] : List Value) ++ List.replicate (6 - (lg_sl ([.ref (a 0), .int p0, .int p1] : List Value)).length) Slot.unset).toArray = ls at hl ⊢
  have hl : lv_has ls 6 [(0, .ref (a 0)), (1, .int p0), (2, .int p1)] := hl
  unfold Mo_holds_w at hw
  refine lv_aload_n hx hb d_Mo_holds_0 rfl (lv_at hl 0 rfl) ?_
  refine va_get (D := (dC, dI)) (ci := 7) (v := .ref (a 16)) (C := R_Mo) (T := T_Mo) (N := 36) hx hb ht in_Mo hown hK hP 0 rfl rfl 21 (by decide) (ht _ kw_634) (fun _ h9 => h9) rfl d_Mo_holds_1 ?_
  refine lv_iload_n hx hb d_Mo_holds_4 rfl (lv_at hl 1 rfl) ?_
  obtain ⟨h5, hw⟩ := hw
  refine va_iald (f := ai 16) hx hb hK hP 16 0 rfl rfl h5 d_Mo_holds_5 ?_
  refine lv_topi (fun v6 ev6 => ?_)
  have hw := zw_nm_x ev6 hw
  refine lv_istore_n (lv' := [(3, .int v6), (0, .ref (a 0)), (1, .int p0), (2, .int p1)]) hx hb d_Mo_holds_6 rfl hl (by decide) rfl (fun ls hl => ?_)
  refine lv_aload_n hx hb d_Mo_holds_7 rfl (lv_at hl 1 rfl) ?_
  refine va_get (D := (dC, dI)) (ci := 7) (v := .ref (a 15)) (C := R_Mo) (T := T_Mo) (N := 36) hx hb ht in_Mo hown hK hP 0 rfl rfl 20 (by decide) (ht _ kw_633) (fun _ h9 => h9) rfl d_Mo_holds_8 ?_
  refine lv_iload_n hx hb d_Mo_holds_11 rfl (lv_at hl 2 rfl) ?_
  obtain ⟨h12, hw⟩ := hw
  refine va_iald (f := ai 15) hx hb hK hP 15 0 rfl rfl h12 d_Mo_holds_12 ?_
  refine lv_iconst (v := (2 : Int32)) hx hb d_Mo_holds_13 (by decide) ?_
  refine lv_icmp_ne (tgt := 49) hx hb d_Mo_holds_14 (by decide) (fun c14 => ?_) (fun c14 => ?_)
  · have hw := zw_ite_f c14 hw
    refine lv_aload_n hx hb d_Mo_holds_49 rfl (lv_at hl 1 rfl) ?_
    refine lv_iload_n hx hb d_Mo_holds_50 rfl (lv_at hl 0 rfl) ?_
    refine lv_iload_n hx hb d_Mo_holds_51 rfl (lv_at hl 3 rfl) ?_
    refine vp_callSi (va_Run.run (va_runV (As := [.int v6, .int p1]) (rest := []) ⟨hx, hb, hml, hown, hts⟩ (c_Mo_isThere l dC dI cI cJ cG cZ a fi fl ai al v6 p1 _ hw) (cwV 2 hts (zw_goodV kw_832 kw_834 kw_s28 kw_9 kw_835) rfl rfl rfl hd_Mo_isThere ⟨Nat.le_of_ble_eq_true rfl, Nat.le_of_ble_eq_true rfl⟩) (zw_preV (ci := 7) (q0 := 0) hK hN hP rfl rfl) rfl rfl hl.1 rfl (lv_room (Nat.le_of_ble_eq_true rfl)) d_Mo_holds_52 ⟨Nat.le_of_ble_eq_true rfl, Nat.le_of_ble_eq_true rfl⟩)) (fun r52 hw => ?_)
    refine lv_if_eq (tgt := 79) hx hb d_Mo_holds_55 (by decide) (fun c55 => ?_) (fun c55 => ?_)
    · have hw := zw_ite_t c55 hw
      refine lv_iconst (v := (1 : Int32)) hx hb d_Mo_holds_79 (by decide) ?_
      exact W.zret (v := (1 : Int32)) (ty := .boolean) hx hb hr rfl (fun t ht hW => ⟨(1 : Int32), rfl, hw, ht⟩) t_nil d_Mo_holds_80
    · have hw := zw_ite_f c55 hw
      refine lv_aload_n hx hb d_Mo_holds_58 rfl (lv_at hl 1 rfl) ?_
      refine va_get (D := (dC, dI)) (ci := 7) (v := .ref (a 15)) (C := R_Mo) (T := T_Mo) (N := 36) hx hb ht in_Mo hown hK hP 0 rfl rfl 20 (by decide) (ht _ kw_633) (fun _ h9 => h9) rfl d_Mo_holds_59 ?_
      refine lv_iload_n hx hb d_Mo_holds_62 rfl (lv_at hl 2 rfl) ?_
      obtain ⟨h63, hw⟩ := hw
      refine va_iald (f := ai 15) hx hb hK hP 15 0 rfl rfl h63 d_Mo_holds_63 ?_
      refine lv_iconst (v := (1 : Int32)) hx hb d_Mo_holds_64 (by decide) ?_
      refine zw_jn0_i (P := ∀ (ls : Array Slot), lv_has ls 6 [(0, .ref (a 0)), (1, .int p0), (2, .int p1), (3, .int v6)] → W p l e (headSpec ws_Mo_holds ({ frames := 5, cells := 0, slots := 0, locals := 117 })).room s m ([.ref (a 0), .int p0, .int p1] : List Value).toArray below meth c s.heap [] 0 0 (MQ below (vp_Si K) ([.ref (a 0), .int p0, .int p1] : List Value).toArray s 0 0 (fun _ => False)) (F0 m 81 ls [])) hw (fun hw ls hl => ?_) (fun J81 hj81 hw => ?_)
      · refine lv_aload_n hx hb d_Mo_holds_81 rfl (lv_at hl 0 rfl) ?_
        refine lv_iload_n hx hb d_Mo_holds_82 rfl (lv_at hl 3 rfl) ?_
        refine lv_iload_n hx hb d_Mo_holds_83 rfl (lv_at hl 2 rfl) ?_
        refine vp_callSl (va_Run.run (va_runV (As := [.int v6, .int p1]) (rest := []) ⟨hx, hb, hml, hown, hts⟩ (c_Mo_levelAt l dC dI cI cJ cG cZ a fi fl ai al v6 p1 _ hw) (cwV 2 hts (zw_goodV kw_840 kw_842 kw_s30 kw_9 kw_843) rfl rfl rfl hd_Mo_levelAt ⟨Nat.le_of_ble_eq_true rfl, Nat.le_of_ble_eq_true rfl⟩) (zw_preV (ci := 7) (q0 := 0) hK hN hP rfl rfl) rfl rfl hl.1 rfl (lv_room (Nat.le_of_ble_eq_true rfl)) d_Mo_holds_84 ⟨Nat.le_of_ble_eq_true rfl, Nat.le_of_ble_eq_true rfl⟩)) (fun r84 hw => ?_)
        refine lv_aload_n hx hb d_Mo_holds_87 rfl (lv_at hl 0 rfl) ?_
        refine va_get (D := (dC, dI)) (ci := 7) (v := .ref (a 15)) (C := R_Mo) (T := T_Mo) (N := 36) hx hb ht in_Mo hown hK hP 0 rfl rfl 20 (by decide) (ht _ kw_633) (fun _ h9 => h9) rfl d_Mo_holds_88 ?_
        refine lv_iload_n hx hb d_Mo_holds_91 rfl (lv_at hl 1 rfl) ?_
        obtain ⟨h92, hw⟩ := hw
        refine va_iald (f := ai 15) hx hb hK hP 15 0 rfl rfl h92 d_Mo_holds_92 ?_
        refine lv_iconst (v := (1 : Int32)) hx hb d_Mo_holds_93 (by decide) ?_
        refine zw_jn1_i (P := fun (y109_0 : Int64) => ∀ (ls : Array Slot), lv_has ls 6 [(0, .ref (a 0)), (1, .int p0)] → W p l e (headSpec ws_Mo_holds ({ frames := 5, cells := 0, slots := 0, locals := 117 })).room s m ([.ref (a 0), .int p0, .int p1] : List Value).toArray below meth c s.heap [] 0 0 (MQ below (vp_Si K) ([.ref (a 0), .int p0, .int p1] : List Value).toArray s 0 0 (fun _ => False)) (F0 m 109 ls [.long y109_0, .long r84])) hw (fun y109_0 hw ls hl => ?_) (fun J109 hj109 hw => ?_)
        · refine lv_lsub hx hb d_Mo_holds_109 ?_
          refine lv_topl (fun v110 ev110 => ?_)
          have hw := zw_nm_x ev110 hw
          refine lv_lstore (lv' := [(4, .long v110), (0, .ref (a 0)), (1, .int p0)]) hx hb d_Mo_holds_110 hl (by decide) rfl (fun ls hl => ?_)
          refine lv_lload hx hb d_Mo_holds_112 (lv_at hl 0 rfl) ?_
          refine lv_ldc2 (v := (1000000000 : Int64)) hx hb hown (hts (.constantLong R_Mo 185 (1000000000 : Int64)) (by decide +kernel)) d_Mo_holds_114 ?_
          refine lv_aload_n hx hb d_Mo_holds_117 rfl (lv_at hl 1 rfl) ?_
          refine va_get (D := (dC, dI)) (ci := 7) (v := .ref (a 17)) (C := R_Mo) (T := T_Mo) (N := 36) hx hb ht in_Mo hown hK hP 0 rfl rfl 22 (by decide) (ht _ kw_635) (fun _ h9 => h9) rfl d_Mo_holds_118 ?_
          refine lv_iload_n hx hb d_Mo_holds_121 rfl (lv_at hl 2 rfl) ?_
          obtain ⟨h122, hw⟩ := hw
          refine va_iald (f := ai 17) hx hb hK hP 17 0 rfl rfl h122 d_Mo_holds_122 ?_
          refine lv_i2l hx hb d_Mo_holds_123 rfl ?_
          refine lv_lmul hx hb d_Mo_holds_124 ?_
          refine lv_ldc2 (v := (1000000000 : Int64)) hx hb hown (hts (.constantLong R_Mo 185 (1000000000 : Int64)) (by decide +kernel)) d_Mo_holds_125 ?_
          refine lv_aload_n hx hb d_Mo_holds_128 rfl (lv_at hl 1 rfl) ?_
          refine va_get (D := (dC, dI)) (ci := 7) (v := .ref (a 18)) (C := R_Mo) (T := T_Mo) (N := 36) hx hb ht in_Mo hown hK hP 0 rfl rfl 23 (by decide) (ht _ kw_636) (fun _ h9 => h9) rfl d_Mo_holds_129 ?_
          refine lv_iload_n hx hb d_Mo_holds_132 rfl (lv_at hl 2 rfl) ?_
          obtain ⟨h133, hw⟩ := hw
          refine va_iald (f := ai 18) hx hb hK hP 18 0 rfl rfl h133 d_Mo_holds_133 ?_
          refine lv_i2l hx hb d_Mo_holds_134 rfl ?_
          refine lv_lmul hx hb d_Mo_holds_135 ?_
          refine vp_callSi (va_Run.run (va_runS (As := [.long v110, .long ((1000000000 : Int64) * (ai 17 p0.toNatClampNeg).toInt64), .long ((1000000000 : Int64) * (ai 18 p0.toNatClampNeg).toInt64)]) (rest := []) ⟨hx, hb, hml, hown, hts⟩ (c_Mo_in l v110 ((1000000000 : Int64) * (ai 17 p0.toNatClampNeg).toInt64) ((1000000000 : Int64) * (ai 18 p0.toNatClampNeg).toInt64) _ hw) (va_cwS 3 hts (zw_goodS kw_731 kw_732 kw_9 kw_733) rfl rfl rfl hd_Mo_in.2 ⟨Nat.le_of_ble_eq_true rfl, Nat.le_of_ble_eq_true rfl⟩) zw_preS0 rfl rfl hl.1 rfl (lv_room (Nat.le_of_ble_eq_true rfl)) d_Mo_holds_136 ⟨Nat.le_of_ble_eq_true rfl, Nat.le_of_ble_eq_true rfl⟩)) (fun r136 hw => ?_)
          obtain ⟨hz, hw⟩ := hw
          exact W.zret (v := r136) (ty := .boolean) hx hb hr (zw_bool_n hz) (fun t ht hW => ⟨r136, rfl, hw, ht⟩) t_nil d_Mo_holds_139
        · refine lv_icmp_ne (tgt := 108) hx hb d_Mo_holds_94 (by decide) (fun c94 => ?_) (fun c94 => ?_)
          · have hw := zw_ite_f c94 hw
            refine lv_lconst (v := (0 : Int64)) hx hb d_Mo_holds_108 (by decide) ?_
            exact (hj109 (0 : Int64) hw) ls (lv_sub hl [0, 1] rfl)
          · have hw := zw_ite_t c94 hw
            refine lv_aload_n hx hb d_Mo_holds_97 rfl (lv_at hl 0 rfl) ?_
            refine lv_iload_n hx hb d_Mo_holds_98 rfl (lv_at hl 3 rfl) ?_
            refine lv_iconst (v := (1 : Int32)) hx hb d_Mo_holds_99 (by decide) ?_
            refine lv_iadd hx hb d_Mo_holds_100 ?_
            refine lv_iload_n hx hb d_Mo_holds_101 rfl (lv_at hl 2 rfl) ?_
            refine vp_callSl (va_Run.run (va_runV (As := [.int (v6 + (1 : Int32)), .int p1]) (rest := [.long r84]) ⟨hx, hb, hml, hown, hts⟩ (c_Mo_levelAt l dC dI cI cJ cG cZ a fi fl ai al (v6 + (1 : Int32)) p1 _ hw) (cwV 2 hts (zw_goodV kw_840 kw_842 kw_s30 kw_9 kw_843) rfl rfl rfl hd_Mo_levelAt ⟨Nat.le_of_ble_eq_true rfl, Nat.le_of_ble_eq_true rfl⟩) (zw_preV (ci := 7) (q0 := 0) hK hN hP rfl rfl) rfl rfl hl.1 rfl (lv_room (Nat.le_of_ble_eq_true rfl)) d_Mo_holds_102 ⟨Nat.le_of_ble_eq_true rfl, Nat.le_of_ble_eq_true rfl⟩)) (fun r102 hw => ?_)
            refine lv_goto (tgt := 109) hx hb d_Mo_holds_105 (by decide) ?_
            exact (hj109 r102 hw) ls (lv_sub hl [0, 1] rfl)
      · refine lv_icmp_ne (tgt := 81) hx hb d_Mo_holds_65 (by decide) (fun c65 => ?_) (fun c65 => ?_)
        · have hw := zw_ite_f c65 hw
          exact (hj81  hw) ls (lv_sub hl [1, 2, 3, 0] rfl)
        · have hw := zw_ite_t c65 hw
          refine lv_aload_n hx hb d_Mo_holds_68 rfl (lv_at hl 1 rfl) ?_
          refine lv_iload_n hx hb d_Mo_holds_69 rfl (lv_at hl 0 rfl) ?_
          refine lv_iconst (v := (1 : Int32)) hx hb d_Mo_holds_70 (by decide) ?_
          refine lv_iadd hx hb d_Mo_holds_71 ?_
          refine lv_iload_n hx hb d_Mo_holds_72 rfl (lv_at hl 3 rfl) ?_
          refine vp_callSi (va_Run.run (va_runV (As := [.int (v6 + (1 : Int32)), .int p1]) (rest := []) ⟨hx, hb, hml, hown, hts⟩ (c_Mo_isThere l dC dI cI cJ cG cZ a fi fl ai al (v6 + (1 : Int32)) p1 _ hw) (cwV 2 hts (zw_goodV kw_832 kw_834 kw_s28 kw_9 kw_835) rfl rfl rfl hd_Mo_isThere ⟨Nat.le_of_ble_eq_true rfl, Nat.le_of_ble_eq_true rfl⟩) (zw_preV (ci := 7) (q0 := 0) hK hN hP rfl rfl) rfl rfl hl.1 rfl (lv_room (Nat.le_of_ble_eq_true rfl)) d_Mo_holds_73 ⟨Nat.le_of_ble_eq_true rfl, Nat.le_of_ble_eq_true rfl⟩)) (fun r73 hw => ?_)
          refine lv_if_ne (tgt := 81) hx hb d_Mo_holds_76 (by decide) (fun c76 => ?_) (fun c76 => ?_)
          · have hw := zw_ite_f c76 hw
            exact (hj81  hw) ls (lv_sub hl [1, 2, 3, 0] rfl)
          · have hw := zw_ite_t c76 hw
            refine lv_iconst (v := (1 : Int32)) hx hb d_Mo_holds_79 (by decide) ?_
            exact W.zret (v := (1 : Int32)) (ty := .boolean) hx hb hr rfl (fun t ht hW => ⟨(1 : Int32), rfl, hw, ht⟩) t_nil d_Mo_holds_80
  · have hw := zw_ite_t c14 hw
    refine lv_aload_n hx hb d_Mo_holds_17 rfl (lv_at hl 1 rfl) ?_
    refine lv_iload_n hx hb d_Mo_holds_18 rfl (lv_at hl 0 rfl) ?_
    refine lv_iload_n hx hb d_Mo_holds_19 rfl (lv_at hl 3 rfl) ?_
    refine vp_callSl (va_Run.run (va_runV (As := [.int v6, .int p1]) (rest := []) ⟨hx, hb, hml, hown, hts⟩ (c_Mo_carriedAt l dC dI cI cJ cG cZ a fi fl ai al v6 p1 _ hw) (cwV 2 hts (zw_goodV kw_878 kw_880 kw_s37 kw_9 kw_881) rfl rfl rfl hd_Mo_carriedAt ⟨Nat.le_of_ble_eq_true rfl, Nat.le_of_ble_eq_true rfl⟩) (zw_preV (ci := 7) (q0 := 0) hK hN hP rfl rfl) rfl rfl hl.1 rfl (lv_room (Nat.le_of_ble_eq_true rfl)) d_Mo_holds_20 ⟨Nat.le_of_ble_eq_true rfl, Nat.le_of_ble_eq_true rfl⟩)) (fun r20 hw => ?_)
    refine lv_ldc2 (v := (1000 : Int64)) hx hb hown (hts (.constantLong R_Mo 114 (1000 : Int64)) (by decide +kernel)) d_Mo_holds_23 ?_
    refine lv_aload_n hx hb d_Mo_holds_26 rfl (lv_at hl 1 rfl) ?_
    refine va_get (D := (dC, dI)) (ci := 7) (v := .ref (a 17)) (C := R_Mo) (T := T_Mo) (N := 36) hx hb ht in_Mo hown hK hP 0 rfl rfl 22 (by decide) (ht _ kw_635) (fun _ h9 => h9) rfl d_Mo_holds_27 ?_
    refine lv_iload_n hx hb d_Mo_holds_30 rfl (lv_at hl 2 rfl) ?_
    obtain ⟨h31, hw⟩ := hw
    refine va_iald (f := ai 17) hx hb hK hP 17 0 rfl rfl h31 d_Mo_holds_31 ?_
    refine lv_i2l hx hb d_Mo_holds_32 rfl ?_
    refine lv_lmul hx hb d_Mo_holds_33 ?_
    refine lv_ldc2 (v := (1000 : Int64)) hx hb hown (hts (.constantLong R_Mo 114 (1000 : Int64)) (by decide +kernel)) d_Mo_holds_34 ?_
    refine lv_aload_n hx hb d_Mo_holds_37 rfl (lv_at hl 1 rfl) ?_
    refine va_get (D := (dC, dI)) (ci := 7) (v := .ref (a 18)) (C := R_Mo) (T := T_Mo) (N := 36) hx hb ht in_Mo hown hK hP 0 rfl rfl 23 (by decide) (ht _ kw_636) (fun _ h9 => h9) rfl d_Mo_holds_38 ?_
    refine lv_iload_n hx hb d_Mo_holds_41 rfl (lv_at hl 2 rfl) ?_
    obtain ⟨h42, hw⟩ := hw
    refine va_iald (f := ai 18) hx hb hK hP 18 0 rfl rfl h42 d_Mo_holds_42 ?_
    refine lv_i2l hx hb d_Mo_holds_43 rfl ?_
    refine lv_lmul hx hb d_Mo_holds_44 ?_
    refine vp_callSi (va_Run.run (va_runS (As := [.long r20, .long ((1000 : Int64) * (ai 17 p0.toNatClampNeg).toInt64), .long ((1000 : Int64) * (ai 18 p0.toNatClampNeg).toInt64)]) (rest := []) ⟨hx, hb, hml, hown, hts⟩ (c_Mo_in l r20 ((1000 : Int64) * (ai 17 p0.toNatClampNeg).toInt64) ((1000 : Int64) * (ai 18 p0.toNatClampNeg).toInt64) _ hw) (va_cwS 3 hts (zw_goodS kw_731 kw_732 kw_9 kw_733) rfl rfl rfl hd_Mo_in.2 ⟨Nat.le_of_ble_eq_true rfl, Nat.le_of_ble_eq_true rfl⟩) zw_preS0 rfl rfl hl.1 rfl (lv_room (Nat.le_of_ble_eq_true rfl)) d_Mo_holds_45 ⟨Nat.le_of_ble_eq_true rfl, Nat.le_of_ble_eq_true rfl⟩)) (fun r45 hw => ?_)
    obtain ⟨hz, hw⟩ := hw
    exact W.zret (v := r45) (ty := .boolean) hx hb hr (zw_bool_n hz) (fun t ht hW => ⟨r45, rfl, hw, ht⟩) t_nil d_Mo_holds_48
def Mo_broken_w (fi : Nat → Int32) (fl : Nat → Int64) (ai : Nat → Nat → Int32) (al : Nat → Nat → Int64) (p0 : Int32) (K : Int64 → (Nat → Int32) → (Nat → Nat → Int32) → (Nat → Nat → Int64) → Prop) : Prop :=
  Mo_passPlan_w fi fl ai al  (fun (fi_1 : Nat → Int32) (ai_1 : Nat → Nat → Int32) (al_1 : Nat → Nat → Int64) =>
  zw_nm (0 : Int32) (fun (v5 : Int32) =>
  zw_lp1 (fun L6 (x6_2 : Int32) =>
  if (fi_1 2) ≤ x6_2 then (
    K (-1000000000000000000 : Int64) fi_1 ai_1 al_1)
  else (
    zw_nm (0 : Int32) (fun (v15 : Int32) =>
    zw_lp1 (fun L16 (x16_3 : Int32) =>
    if (fi_1 6) ≤ x16_3 then (
      zw_nm (x6_2 + (1 : Int32)) (fun (v62 : Int32) =>
      L6 v62))
    else (
      Mo_holds_w fi_1 fl ai_1 al_1 x16_3 x6_2 (fun (r27 : Int32) =>
      if r27 = 0 then (
        if p0 = 0 then (
          K x6_2.toInt64 fi_1 ai_1 al_1)
        else (
          if p0 = (1 : Int32) then (
            K x16_3.toInt64 fi_1 ai_1 al_1)
          else (
            K (-1000000000000000000 : Int64) fi_1 ai_1 al_1)))
      else (
        zw_nm (x16_3 + (1 : Int32)) (fun (v56 : Int32) =>
        L16 v56))))) v15))) v5))
theorem d_Mo_broken_0 : decode b_Mo_broken 0 = .ok (.aload_n 0, 1) := by decide +kernel
theorem d_Mo_broken_1 : decode b_Mo_broken 1 = .ok (.invokevirtual 203, 3) := by decide +kernel
theorem d_Mo_broken_4 : decode b_Mo_broken 4 = .ok (.iconst 0, 1) := by decide +kernel
theorem d_Mo_broken_5 : decode b_Mo_broken 5 = .ok (.istore_n 2, 1) := by decide +kernel
theorem d_Mo_broken_6 : decode b_Mo_broken 6 = .ok (.iload_n 2, 1) := by decide +kernel
theorem d_Mo_broken_7 : decode b_Mo_broken 7 = .ok (.aload_n 0, 1) := by decide +kernel
theorem d_Mo_broken_8 : decode b_Mo_broken 8 = .ok (.getfield 107, 3) := by decide +kernel
theorem d_Mo_broken_11 : decode b_Mo_broken 11 = .ok (.if_icmp .ge (57), 3) := by decide +kernel
theorem d_Mo_broken_14 : decode b_Mo_broken 14 = .ok (.iconst 0, 1) := by decide +kernel
theorem d_Mo_broken_15 : decode b_Mo_broken 15 = .ok (.istore_n 3, 1) := by decide +kernel
theorem d_Mo_broken_16 : decode b_Mo_broken 16 = .ok (.iload_n 3, 1) := by decide +kernel
theorem d_Mo_broken_17 : decode b_Mo_broken 17 = .ok (.aload_n 0, 1) := by decide +kernel
theorem d_Mo_broken_18 : decode b_Mo_broken 18 = .ok (.getfield 222, 3) := by decide +kernel
theorem d_Mo_broken_21 : decode b_Mo_broken 21 = .ok (.if_icmp .ge (41), 3) := by decide +kernel
theorem d_Mo_broken_24 : decode b_Mo_broken 24 = .ok (.aload_n 0, 1) := by decide +kernel
theorem d_Mo_broken_25 : decode b_Mo_broken 25 = .ok (.iload_n 3, 1) := by decide +kernel
theorem d_Mo_broken_26 : decode b_Mo_broken 26 = .ok (.iload_n 2, 1) := by decide +kernel
theorem d_Mo_broken_27 : decode b_Mo_broken 27 = .ok (.invokevirtual 225, 3) := by decide +kernel
theorem d_Mo_broken_30 : decode b_Mo_broken 30 = .ok (.ifCond .ne (26), 3) := by decide +kernel
theorem d_Mo_broken_33 : decode b_Mo_broken 33 = .ok (.iload_n 1, 1) := by decide +kernel
theorem d_Mo_broken_34 : decode b_Mo_broken 34 = .ok (.ifCond .ne (8), 3) := by decide +kernel
theorem d_Mo_broken_37 : decode b_Mo_broken 37 = .ok (.iload_n 2, 1) := by decide +kernel
theorem d_Mo_broken_38 : decode b_Mo_broken 38 = .ok (.i2l, 1) := by decide +kernel
theorem d_Mo_broken_39 : decode b_Mo_broken 39 = .ok (.goto (16), 3) := by decide +kernel
theorem d_Mo_broken_42 : decode b_Mo_broken 42 = .ok (.iload_n 1, 1) := by decide +kernel
theorem d_Mo_broken_43 : decode b_Mo_broken 43 = .ok (.iconst 1, 1) := by decide +kernel
theorem d_Mo_broken_44 : decode b_Mo_broken 44 = .ok (.if_icmp .ne (8), 3) := by decide +kernel
theorem d_Mo_broken_47 : decode b_Mo_broken 47 = .ok (.iload_n 3, 1) := by decide +kernel
theorem d_Mo_broken_48 : decode b_Mo_broken 48 = .ok (.i2l, 1) := by decide +kernel
theorem d_Mo_broken_49 : decode b_Mo_broken 49 = .ok (.goto (6), 3) := by decide +kernel
theorem d_Mo_broken_52 : decode b_Mo_broken 52 = .ok (.ldc2_w 148, 3) := by decide +kernel
theorem d_Mo_broken_55 : decode b_Mo_broken 55 = .ok (.lreturn, 1) := by decide +kernel
theorem d_Mo_broken_56 : decode b_Mo_broken 56 = .ok (.iinc 3 (1), 3) := by decide +kernel
theorem d_Mo_broken_59 : decode b_Mo_broken 59 = .ok (.goto (-43), 3) := by decide +kernel
theorem d_Mo_broken_62 : decode b_Mo_broken 62 = .ok (.iinc 2 (1), 3) := by decide +kernel
theorem d_Mo_broken_65 : decode b_Mo_broken 65 = .ok (.goto (-59), 3) := by decide +kernel
theorem d_Mo_broken_68 : decode b_Mo_broken 68 = .ok (.ldc2_w 148, 3) := by decide +kernel
theorem d_Mo_broken_71 : decode b_Mo_broken 71 = .ok (.lreturn, 1) := by decide +kernel
set_option maxHeartbeats 4000000 in
set_option maxRecDepth 100000 in
theorem c_Mo_broken (l : Launch) (dC : Nat → ClassId) (dI : Nat → Nat → Nat) (cI cJ cG cZ : ClassId) (a : Nat → Nat) (sz : Nat) (fi : Nat → Int32) (fl : Nat → Int64) (ai : Nat → Nat → Int32) (al : Nat → Nat → Int64) (p0 : Int32) (K : Int64 → (Nat → Int32) → (Nat → Nat → Int32) → (Nat → Nat → Int64) → Prop) (hw : Mo_broken_w fi fl ai al p0 K) : Met l y_Mo_broken ws_Mo_broken ({ frames := 6, cells := 0, slots := 0, locals := 142 }) (va_Pc [.ref (a 0), .int p0] (zw_Bw (dC, dI) vwCl [(cI, .int), (cJ, .long), (cG, .array .int), (cZ, .boolean)] (mw cI cJ cG cZ a fi fl ai al) sz)) (va_Ql (fun r (u : zw_Z) => (zw_k_fi_ai_alr fl K) r u.1 u.2.1 u.2.2.1 u.2.2.2) (fun u t => zw_E (dC, dI) vwCl [(cI, .int), (cJ, .long), (cG, .array .int), (cZ, .boolean)] (va_A (mw cI cJ cG cZ a fi fl ai al) sz) (mw cI cJ cG cZ a u.1 u.2.1 u.2.2.1 u.2.2.2) t) (va_A (mw cI cJ cG cZ a fi fl ai al) sz)) 0 0 (va_A (mw cI cJ cG cZ a fi fl ai al) sz) := by
  refine Met.ofW (cc := b_Mo_broken) (maxL := 4) (ret := (Option.some FieldType.long)) (by decide) rfl ?_
  intro p e s m args below meth c s₁ B hml hv
  obtain ⟨rfl, hsz, hP, hK, hD0, hN⟩ := hv
  have hx := B.exec
  have hb := B.bytes
  have hr := B.returns
  have hts := atoms_spec (ws := ws_Mo_broken) B.pre
  have ht : ∀ w ∈ zw_tbl, w.before _ s = true := fun w h => hts w (List.mem_cons_of_mem _ h)
  have hown : s.vm.findClass R_Mo = some m.cls := findClass_of_methodNamed B.named
  have hlocks := B.notSynchronized
  subst hsz
  have hD := hD0.self (sz := s.heap.size)
  generalize hAe : va_A (mw cI cJ cG cZ a fi fl ai al) s.heap.size = A at hD ⊢
  have hA : ∀ q : Nat, s.heap.size ≤ q → A q := fun q h => by rw [← hAe]; exact Or.inr h
  have hS : va_S A s.heap s.heap [] := va_S.rf
  have hl := lv_entry ([.ref (a 0), .int p0] : List Value) (n := 4) (Nat.le_of_ble_eq_true rfl)
  rw [lg_entry_eq]
  generalize (lg_sl ([.ref (a 0), .int p0] : List Value) ++ List.replicate (4 - (lg_sl ([.ref (a 0), .int p0] : List Value)).length) Slot.unset).toArray = ls at hl ⊢
  have hl : lv_has ls 4 [(0, .ref (a 0)), (1, .int p0)] := hl
  unfold Mo_broken_w at hw
  obtain ⟨H, hH⟩ : ∃ H, H = s.heap := ⟨_, rfl⟩
  obtain ⟨locs, hlo⟩ : ∃ q : List Loc, q = [] := ⟨_, rfl⟩
  have hP : va_P (dC, dI) vwCl (mw cI cJ cG cZ a fi fl ai al) H := by rw [hH]; exact hP
  have hS : va_S A s.heap H locs := by rw [hH, hlo]; exact hS
  have key : W p l e (headSpec ws_Mo_broken ({ frames := 6, cells := 0, slots := 0, locals := 142 })).room s m ([.ref (a 0), .int p0] : List Value).toArray below meth c H locs 0 0 (MQ below (va_Ql (fun r (u : zw_Z) => (zw_k_fi_ai_alr fl K) r u.1 u.2.1 u.2.2.1 u.2.2.2) (fun u t => zw_E (dC, dI) vwCl [(cI, .int), (cJ, .long), (cG, .array .int), (cZ, .boolean)] A (mw cI cJ cG cZ a u.1 u.2.1 u.2.2.1 u.2.2.2) t) A) ([.ref (a 0), .int p0] : List Value).toArray s 0 0 A) (F0 m 0 ls []) := by
    refine lv_aload_n hx hb d_Mo_broken_0 rfl (lv_at hl 0 rfl) ?_
    refine zw_cv (va_runV (As := []) (rest := []) ⟨hx, hb, hml, hown, hts⟩ (c_Mo_passPlan l dC dI cI cJ cG cZ a H.size fi fl ai al _ hw) (cwV 0 hts (zw_goodV kw_816 kw_818 kw_s24 kw_9 kw_819) rfl rfl rfl hd_Mo_passPlan ⟨Nat.le_of_ble_eq_true rfl, Nat.le_of_ble_eq_true rfl⟩) (zw_preVw (ci := 7) (q0 := 0) hK hN hP hD rfl rfl) rfl rfl hl.1 rfl (lv_room (Nat.le_of_ble_eq_true rfl)) d_Mo_broken_1 ⟨Nat.le_of_ble_eq_true rfl, Nat.le_of_ble_eq_true rfl⟩) hD hS hA (fun fi_1 fl_1 ai_1 al_1 H locs hw hP hD hS => ?_)
    obtain ⟨rfl, hw⟩ := hw
    refine lv_iconst (v := (0 : Int32)) hx hb d_Mo_broken_4 (by decide) ?_
    refine lv_topi (fun v5 ev5 => ?_)
    have hw := zw_nm_x ev5 hw
    refine lv_istore_n (lv' := [(2, .int v5), (0, .ref (a 0)), (1, .int p0)]) hx hb d_Mo_broken_5 rfl hl (by decide) rfl (fun ls hl => ?_)
    refine (zw_lp1_i (P := fun (x6_2 : Int32) => ∀ (H : Heap) (locs : List Loc) (ls : Array Slot), va_P (dC, dI) vwCl (mw cI cJ cG cZ a fi_1 fl ai_1 al_1) H → va_D A (mw cI cJ cG cZ a fi_1 fl ai_1 al_1) → va_S A s.heap H locs → lv_has ls 4 [(0, .ref (a 0)), (1, .int p0), (2, .int x6_2)] → W p l e (headSpec ws_Mo_broken ({ frames := 6, cells := 0, slots := 0, locals := 142 })).room s m ([.ref (a 0), .int p0] : List Value).toArray below meth c H locs 0 0 (MQ below (va_Ql (fun r (u : zw_Z) => (zw_k_fi_ai_alr fl K) r u.1 u.2.1 u.2.2.1 u.2.2.2) (fun u t => zw_E (dC, dI) vwCl [(cI, .int), (cJ, .long), (cG, .array .int), (cZ, .boolean)] A (mw cI cJ cG cZ a u.1 u.2.1 u.2.2.1 u.2.2.2) t) A) ([.ref (a 0), .int p0] : List Value).toArray s 0 0 A) (F0 m 6 ls [])) hw (fun L6 x6_2 ih6 hw H locs ls hP hD hS hl => ?_)) H locs ls hP hD hS (lv_sub hl [1, 2, 0] rfl)
    refine lv_iload_n hx hb d_Mo_broken_6 rfl (lv_at hl 2 rfl) ?_
    refine lv_aload_n hx hb d_Mo_broken_7 rfl (lv_at hl 0 rfl) ?_
    refine va_get (D := (dC, dI)) (ci := 7) (v := .int (fi_1 2)) (C := R_Mo) (T := T_Mo) (N := 36) hx hb ht in_Mo hown hK hP 0 rfl rfl 11 (by decide) (ht _ kw_624) (fun _ h9 => h9) rfl d_Mo_broken_8 ?_
    refine lv_icmp_ge (tgt := 68) hx hb d_Mo_broken_11 (by decide) (fun c11 => ?_) (fun c11 => ?_)
    · have hw := zw_ite_t c11 hw
      refine lv_ldc2 (v := (-1000000000000000000 : Int64)) hx hb hown (hts (.constantLong R_Mo 148 (-1000000000000000000 : Int64)) (by decide +kernel)) d_Mo_broken_68 ?_
      exact W.lret (v := (-1000000000000000000 : Int64)) hx hb hr (fun t ht hW => ⟨⟨(-1000000000000000000 : Int64), (fi_1, fl, ai_1, al_1), rfl, ⟨rfl, hw⟩, by rw [ht]; exact hP, va_K.moved hW.alike hK, hD⟩, hS.F ht⟩) hS.2.2 d_Mo_broken_71
    · have hw := zw_ite_f c11 hw
      refine lv_iconst (v := (0 : Int32)) hx hb d_Mo_broken_14 (by decide) ?_
      refine lv_topi (fun v15 ev15 => ?_)
      have hw := zw_nm_x ev15 hw
      refine lv_istore_n (lv' := [(3, .int v15), (0, .ref (a 0)), (1, .int p0), (2, .int x6_2)]) hx hb d_Mo_broken_15 rfl hl (by decide) rfl (fun ls hl => ?_)
      refine (zw_lp1_i (P := fun (x16_3 : Int32) => ∀ (H : Heap) (locs : List Loc) (ls : Array Slot), va_P (dC, dI) vwCl (mw cI cJ cG cZ a fi_1 fl ai_1 al_1) H → va_D A (mw cI cJ cG cZ a fi_1 fl ai_1 al_1) → va_S A s.heap H locs → lv_has ls 4 [(0, .ref (a 0)), (1, .int p0), (2, .int x6_2), (3, .int x16_3)] → W p l e (headSpec ws_Mo_broken ({ frames := 6, cells := 0, slots := 0, locals := 142 })).room s m ([.ref (a 0), .int p0] : List Value).toArray below meth c H locs 0 0 (MQ below (va_Ql (fun r (u : zw_Z) => (zw_k_fi_ai_alr fl K) r u.1 u.2.1 u.2.2.1 u.2.2.2) (fun u t => zw_E (dC, dI) vwCl [(cI, .int), (cJ, .long), (cG, .array .int), (cZ, .boolean)] A (mw cI cJ cG cZ a u.1 u.2.1 u.2.2.1 u.2.2.2) t) A) ([.ref (a 0), .int p0] : List Value).toArray s 0 0 A) (F0 m 16 ls [])) hw (fun L16 x16_3 ih16 hw H locs ls hP hD hS hl => ?_)) H locs ls hP hD hS (lv_sub hl [1, 2, 3, 0] rfl)
      refine lv_iload_n hx hb d_Mo_broken_16 rfl (lv_at hl 3 rfl) ?_
      refine lv_aload_n hx hb d_Mo_broken_17 rfl (lv_at hl 0 rfl) ?_
      refine va_get (D := (dC, dI)) (ci := 7) (v := .int (fi_1 6)) (C := R_Mo) (T := T_Mo) (N := 36) hx hb ht in_Mo hown hK hP 0 rfl rfl 24 (by decide) (ht _ kw_637) (fun _ h9 => h9) rfl d_Mo_broken_18 ?_
      refine lv_icmp_ge (tgt := 62) hx hb d_Mo_broken_21 (by decide) (fun c21 => ?_) (fun c21 => ?_)
      · have hw := zw_ite_t c21 hw
        obtain ⟨v62, ev62⟩ : ∃ y : Int32, y = x6_2 + (1 : Int32) := ⟨_, rfl⟩
        refine lv_iinc (v := v62) (lv' := [(2, .int v62), (0, .ref (a 0)), (1, .int p0), (3, .int x16_3)]) hx hb d_Mo_broken_62 hl (k := 2) rfl (by rw [ev62]; rfl) (by decide) rfl (fun ls hl => ?_)
        have hw := zw_nm_x ev62 hw
        refine lv_goto (tgt := 6) hx hb d_Mo_broken_65 (by decide) ?_
        exact (ih6 v62 hw) H locs ls hP hD hS (lv_sub hl [1, 2, 0] rfl)
      · have hw := zw_ite_f c21 hw
        refine lv_aload_n hx hb d_Mo_broken_24 rfl (lv_at hl 0 rfl) ?_
        refine lv_iload_n hx hb d_Mo_broken_25 rfl (lv_at hl 3 rfl) ?_
        refine lv_iload_n hx hb d_Mo_broken_26 rfl (lv_at hl 2 rfl) ?_
        refine vp_callSi (va_Run.run (va_runV (As := [.int x16_3, .int x6_2]) (rest := []) ⟨hx, hb, hml, hown, hts⟩ (c_Mo_holds l dC dI cI cJ cG cZ a fi_1 fl ai_1 al_1 x16_3 x6_2 _ hw) (cwV 2 hts (zw_goodV kw_900 kw_902 kw_s38 kw_9 kw_903) rfl rfl rfl hd_Mo_holds ⟨Nat.le_of_ble_eq_true rfl, Nat.le_of_ble_eq_true rfl⟩) (zw_preV (ci := 7) (q0 := 0) hK hN hP rfl rfl) rfl rfl hl.1 rfl (lv_room (Nat.le_of_ble_eq_true rfl)) d_Mo_broken_27 ⟨Nat.le_of_ble_eq_true rfl, Nat.le_of_ble_eq_true rfl⟩)) (fun r27 hw => ?_)
        refine lv_if_ne (tgt := 56) hx hb d_Mo_broken_30 (by decide) (fun c30 => ?_) (fun c30 => ?_)
        · have hw := zw_ite_f c30 hw
          obtain ⟨v56, ev56⟩ : ∃ y : Int32, y = x16_3 + (1 : Int32) := ⟨_, rfl⟩
          refine lv_iinc (v := v56) (lv' := [(3, .int v56), (0, .ref (a 0)), (1, .int p0), (2, .int x6_2)]) hx hb d_Mo_broken_56 hl (k := 3) rfl (by rw [ev56]; rfl) (by decide) rfl (fun ls hl => ?_)
          have hw := zw_nm_x ev56 hw
          refine lv_goto (tgt := 16) hx hb d_Mo_broken_59 (by decide) ?_
          exact (ih16 v56 hw) H locs ls hP hD hS (lv_sub hl [1, 2, 3, 0] rfl)
        · have hw := zw_ite_t c30 hw
          refine lv_iload_n hx hb d_Mo_broken_33 rfl (lv_at hl 1 rfl) ?_
          refine lv_if_ne (tgt := 42) hx hb d_Mo_broken_34 (by decide) (fun c34 => ?_) (fun c34 => ?_)
          · have hw := zw_ite_f c34 hw
            refine lv_iload_n hx hb d_Mo_broken_42 rfl (lv_at hl 1 rfl) ?_
            refine lv_iconst (v := (1 : Int32)) hx hb d_Mo_broken_43 (by decide) ?_
            refine lv_icmp_ne (tgt := 52) hx hb d_Mo_broken_44 (by decide) (fun c44 => ?_) (fun c44 => ?_)
            · have hw := zw_ite_f c44 hw
              refine lv_ldc2 (v := (-1000000000000000000 : Int64)) hx hb hown (hts (.constantLong R_Mo 148 (-1000000000000000000 : Int64)) (by decide +kernel)) d_Mo_broken_52 ?_
              exact W.lret (v := (-1000000000000000000 : Int64)) hx hb hr (fun t ht hW => ⟨⟨(-1000000000000000000 : Int64), (fi_1, fl, ai_1, al_1), rfl, ⟨rfl, hw⟩, by rw [ht]; exact hP, va_K.moved hW.alike hK, hD⟩, hS.F ht⟩) hS.2.2 d_Mo_broken_55
            · have hw := zw_ite_t c44 hw
              refine lv_iload_n hx hb d_Mo_broken_47 rfl (lv_at hl 3 rfl) ?_
              refine lv_i2l hx hb d_Mo_broken_48 rfl ?_
              refine lv_goto (tgt := 55) hx hb d_Mo_broken_49 (by decide) ?_
              exact W.lret (v := x16_3.toInt64) hx hb hr (fun t ht hW => ⟨⟨x16_3.toInt64, (fi_1, fl, ai_1, al_1), rfl, ⟨rfl, hw⟩, by rw [ht]; exact hP, va_K.moved hW.alike hK, hD⟩, hS.F ht⟩) hS.2.2 d_Mo_broken_55
          · have hw := zw_ite_t c34 hw
            refine lv_iload_n hx hb d_Mo_broken_37 rfl (lv_at hl 2 rfl) ?_
            refine lv_i2l hx hb d_Mo_broken_38 rfl ?_
            refine lv_goto (tgt := 55) hx hb d_Mo_broken_39 (by decide) ?_
            exact W.lret (v := x6_2.toInt64) hx hb hr (fun t ht hW => ⟨⟨x6_2.toInt64, (fi_1, fl, ai_1, al_1), rfl, ⟨rfl, hw⟩, by rw [ht]; exact hP, va_K.moved hW.alike hK, hD⟩, hS.F ht⟩) hS.2.2 d_Mo_broken_55
  rw [hH, hlo] at key
  exact key
def Mo_shift_w (fi : Nat → Int32) (fl : Nat → Int64) (ai : Nat → Nat → Int32) (al : Nat → Nat → Int64) (p0 : Int32) (p1 : Int32) (K : Int32 → (Nat → Int32) → (Nat → Nat → Int32) → Prop) : Prop :=
  Mo_isStage_w fi fl ai al p0 (fun (r2 : Int32) =>
  if r2 = 0 then (
    K (0 : Int32) fi ai)
  else (
    vp_in p0 12 ∧ (
    zw_nm ((ai 9 p0.toNatClampNeg).toInt64 + p1.toInt64) (fun (v20 : Int64) =>
    Mo_lastDay_w fi fl ai al  (fun (r22 : Int32) =>
    zw_nm (r22.toInt64 + p1.toInt64) (fun (v29 : Int64) =>
    if v20 < (0 : Int64) then (
      K (0 : Int32) fi ai)
    else (
      if (20000 : Int64) < v29 then (
        K (0 : Int32) fi ai)
      else (
        zw_jn0 (
        zw_lp2 (fun L69 (x69_7 : Int32) (ai69 : Nat → Nat → Int32) =>
        if (fi 2) ≤ x69_7 then (
          Mo_lookAtEnd_w fi fl ai69 al  (fun (fi_101 : Nat → Int32) =>
          K (1 : Int32) fi_101 ai69))
        else (
          vp_in x69_7 12 ∧ (
          vp_in x69_7 12 ∧ (zw_nm (va_up ai69 9 (upd (ai69 9) x69_7.toNatClampNeg ((ai69 9 x69_7.toNatClampNeg) + p1))) (fun (ai_93 : Nat → Nat → Int32) =>
          zw_nm (x69_7 + (1 : Int32)) (fun (v94 : Int32) =>
          L69 v94 ai_93)))))) p0 ai) (fun J66 =>
        if p0 ≤ 0 then (
          J66)
        else (
          vp_in (p0 - (1 : Int32)) 12 ∧ (
          if (ai 9 (p0 - (1 : Int32)).toNatClampNeg).toInt64 < v20 then (
            J66)
          else (
            K (0 : Int32) fi ai))))))))))))
theorem d_Mo_shift_0 : decode b_Mo_shift 0 = .ok (.aload_n 0, 1) := by decide +kernel
theorem d_Mo_shift_1 : decode b_Mo_shift 1 = .ok (.iload_n 1, 1) := by decide +kernel
theorem d_Mo_shift_2 : decode b_Mo_shift 2 = .ok (.invokevirtual 197, 3) := by decide +kernel
theorem d_Mo_shift_5 : decode b_Mo_shift 5 = .ok (.ifCond .ne (5), 3) := by decide +kernel
theorem d_Mo_shift_8 : decode b_Mo_shift 8 = .ok (.iconst 0, 1) := by decide +kernel
theorem d_Mo_shift_9 : decode b_Mo_shift 9 = .ok (.ireturn, 1) := by decide +kernel
theorem d_Mo_shift_10 : decode b_Mo_shift 10 = .ok (.aload_n 0, 1) := by decide +kernel
theorem d_Mo_shift_11 : decode b_Mo_shift 11 = .ok (.getfield 35, 3) := by decide +kernel
theorem d_Mo_shift_14 : decode b_Mo_shift 14 = .ok (.iload_n 1, 1) := by decide +kernel
theorem d_Mo_shift_15 : decode b_Mo_shift 15 = .ok (.iaload, 1) := by decide +kernel
theorem d_Mo_shift_16 : decode b_Mo_shift 16 = .ok (.i2l, 1) := by decide +kernel
theorem d_Mo_shift_17 : decode b_Mo_shift 17 = .ok (.iload_n 2, 1) := by decide +kernel
theorem d_Mo_shift_18 : decode b_Mo_shift 18 = .ok (.i2l, 1) := by decide +kernel
theorem d_Mo_shift_19 : decode b_Mo_shift 19 = .ok (.ladd, 1) := by decide +kernel
theorem d_Mo_shift_20 : decode b_Mo_shift 20 = .ok (.lstore_n 3, 1) := by decide +kernel
theorem d_Mo_shift_21 : decode b_Mo_shift 21 = .ok (.aload_n 0, 1) := by decide +kernel
theorem d_Mo_shift_22 : decode b_Mo_shift 22 = .ok (.invokevirtual 144, 3) := by decide +kernel
theorem d_Mo_shift_25 : decode b_Mo_shift 25 = .ok (.i2l, 1) := by decide +kernel
theorem d_Mo_shift_26 : decode b_Mo_shift 26 = .ok (.iload_n 2, 1) := by decide +kernel
theorem d_Mo_shift_27 : decode b_Mo_shift 27 = .ok (.i2l, 1) := by decide +kernel
theorem d_Mo_shift_28 : decode b_Mo_shift 28 = .ok (.ladd, 1) := by decide +kernel
theorem d_Mo_shift_29 : decode b_Mo_shift 29 = .ok (.lstore 5, 2) := by decide +kernel
theorem d_Mo_shift_31 : decode b_Mo_shift 31 = .ok (.lload_n 3, 1) := by decide +kernel
theorem d_Mo_shift_32 : decode b_Mo_shift 32 = .ok (.lconst 0, 1) := by decide +kernel
theorem d_Mo_shift_33 : decode b_Mo_shift 33 = .ok (.lcmp, 1) := by decide +kernel
theorem d_Mo_shift_34 : decode b_Mo_shift 34 = .ok (.ifCond .lt (30), 3) := by decide +kernel
theorem d_Mo_shift_37 : decode b_Mo_shift 37 = .ok (.lload 5, 2) := by decide +kernel
theorem d_Mo_shift_39 : decode b_Mo_shift 39 = .ok (.ldc2_w 129, 3) := by decide +kernel
theorem d_Mo_shift_42 : decode b_Mo_shift 42 = .ok (.lcmp, 1) := by decide +kernel
theorem d_Mo_shift_43 : decode b_Mo_shift 43 = .ok (.ifCond .gt (21), 3) := by decide +kernel
theorem d_Mo_shift_46 : decode b_Mo_shift 46 = .ok (.iload_n 1, 1) := by decide +kernel
theorem d_Mo_shift_47 : decode b_Mo_shift 47 = .ok (.ifCond .le (19), 3) := by decide +kernel
theorem d_Mo_shift_50 : decode b_Mo_shift 50 = .ok (.lload_n 3, 1) := by decide +kernel
theorem d_Mo_shift_51 : decode b_Mo_shift 51 = .ok (.aload_n 0, 1) := by decide +kernel
theorem d_Mo_shift_52 : decode b_Mo_shift 52 = .ok (.getfield 35, 3) := by decide +kernel
theorem d_Mo_shift_55 : decode b_Mo_shift 55 = .ok (.iload_n 1, 1) := by decide +kernel
theorem d_Mo_shift_56 : decode b_Mo_shift 56 = .ok (.iconst 1, 1) := by decide +kernel
theorem d_Mo_shift_57 : decode b_Mo_shift 57 = .ok (.isub, 1) := by decide +kernel
theorem d_Mo_shift_58 : decode b_Mo_shift 58 = .ok (.iaload, 1) := by decide +kernel
theorem d_Mo_shift_59 : decode b_Mo_shift 59 = .ok (.i2l, 1) := by decide +kernel
theorem d_Mo_shift_60 : decode b_Mo_shift 60 = .ok (.lcmp, 1) := by decide +kernel
theorem d_Mo_shift_61 : decode b_Mo_shift 61 = .ok (.ifCond .gt (5), 3) := by decide +kernel
theorem d_Mo_shift_64 : decode b_Mo_shift 64 = .ok (.iconst 0, 1) := by decide +kernel
theorem d_Mo_shift_65 : decode b_Mo_shift 65 = .ok (.ireturn, 1) := by decide +kernel
theorem d_Mo_shift_66 : decode b_Mo_shift 66 = .ok (.iload_n 1, 1) := by decide +kernel
theorem d_Mo_shift_67 : decode b_Mo_shift 67 = .ok (.istore 7, 2) := by decide +kernel
theorem d_Mo_shift_69 : decode b_Mo_shift 69 = .ok (.iload 7, 2) := by decide +kernel
theorem d_Mo_shift_71 : decode b_Mo_shift 71 = .ok (.aload_n 0, 1) := by decide +kernel
theorem d_Mo_shift_72 : decode b_Mo_shift 72 = .ok (.getfield 107, 3) := by decide +kernel
theorem d_Mo_shift_75 : decode b_Mo_shift 75 = .ok (.if_icmp .ge (25), 3) := by decide +kernel
theorem d_Mo_shift_78 : decode b_Mo_shift 78 = .ok (.aload_n 0, 1) := by decide +kernel
theorem d_Mo_shift_79 : decode b_Mo_shift 79 = .ok (.getfield 35, 3) := by decide +kernel
theorem d_Mo_shift_82 : decode b_Mo_shift 82 = .ok (.iload 7, 2) := by decide +kernel
theorem d_Mo_shift_84 : decode b_Mo_shift 84 = .ok (.aload_n 0, 1) := by decide +kernel
theorem d_Mo_shift_85 : decode b_Mo_shift 85 = .ok (.getfield 35, 3) := by decide +kernel
theorem d_Mo_shift_88 : decode b_Mo_shift 88 = .ok (.iload 7, 2) := by decide +kernel
theorem d_Mo_shift_90 : decode b_Mo_shift 90 = .ok (.iaload, 1) := by decide +kernel
theorem d_Mo_shift_91 : decode b_Mo_shift 91 = .ok (.iload_n 2, 1) := by decide +kernel
theorem d_Mo_shift_92 : decode b_Mo_shift 92 = .ok (.iadd, 1) := by decide +kernel
theorem d_Mo_shift_93 : decode b_Mo_shift 93 = .ok (.iastore, 1) := by decide +kernel
theorem d_Mo_shift_94 : decode b_Mo_shift 94 = .ok (.iinc 7 (1), 3) := by decide +kernel
theorem d_Mo_shift_97 : decode b_Mo_shift 97 = .ok (.goto (-28), 3) := by decide +kernel
theorem d_Mo_shift_100 : decode b_Mo_shift 100 = .ok (.aload_n 0, 1) := by decide +kernel
theorem d_Mo_shift_101 : decode b_Mo_shift 101 = .ok (.invokevirtual 150, 3) := by decide +kernel
theorem d_Mo_shift_104 : decode b_Mo_shift 104 = .ok (.iconst 1, 1) := by decide +kernel
theorem d_Mo_shift_105 : decode b_Mo_shift 105 = .ok (.ireturn, 1) := by decide +kernel
set_option maxHeartbeats 4000000 in
set_option maxRecDepth 100000 in
theorem c_Mo_shift (l : Launch) (dC : Nat → ClassId) (dI : Nat → Nat → Nat) (cI cJ cG cZ : ClassId) (a : Nat → Nat) (sz : Nat) (fi : Nat → Int32) (fl : Nat → Int64) (ai : Nat → Nat → Int32) (al : Nat → Nat → Int64) (p0 : Int32) (p1 : Int32) (K : Int32 → (Nat → Int32) → (Nat → Nat → Int32) → Prop) (hw : Mo_shift_w fi fl ai al p0 p1 K) : Met l y_Mo_shift ws_Mo_shift ({ frames := 2, cells := 0, slots := 0, locals := 46 }) (va_Pc [.ref (a 0), .int p0, .int p1] (zw_Bw (dC, dI) vwCl [(cI, .int), (cJ, .long), (cG, .array .int), (cZ, .boolean)] (mw cI cJ cG cZ a fi fl ai al) sz)) (va_Qi (fun r (u : zw_Z) => (zw_k_fi_air fl al K) r u.1 u.2.1 u.2.2.1 u.2.2.2) (fun u t => zw_E (dC, dI) vwCl [(cI, .int), (cJ, .long), (cG, .array .int), (cZ, .boolean)] (va_A (mw cI cJ cG cZ a fi fl ai al) sz) (mw cI cJ cG cZ a u.1 u.2.1 u.2.2.1 u.2.2.2) t) (va_A (mw cI cJ cG cZ a fi fl ai al) sz)) 0 0 (va_A (mw cI cJ cG cZ a fi fl ai al) sz) := by
  refine Met.ofW (cc := b_Mo_shift) (maxL := 8) (ret := (Option.some FieldType.boolean)) (by decide) rfl ?_
  intro p e s m args below meth c s₁ B hml hv
  obtain ⟨rfl, hsz, hP, hK, hD0, hN⟩ := hv
  have hx := B.exec
  have hb := B.bytes
  have hr := B.returns
  have hts := atoms_spec (ws := ws_Mo_shift) B.pre
  have ht : ∀ w ∈ zw_tbl, w.before _ s = true := fun w h => hts w (List.mem_cons_of_mem _ h)
  have hown : s.vm.findClass R_Mo = some m.cls := findClass_of_methodNamed B.named
  have hlocks := B.notSynchronized
  subst hsz
  have hD := hD0.self (sz := s.heap.size)
  generalize hAe : va_A (mw cI cJ cG cZ a fi fl ai al) s.heap.size = A at hD ⊢
  have hA : ∀ q : Nat, s.heap.size ≤ q → A q := fun q h => by rw [← hAe]; exact Or.inr h
  have hS : va_S A s.heap s.heap [] := va_S.rf
  have hl := lv_entry ([.ref (a 0), .int p0, .int p1] : List Value) (n := 8) (Nat.le_of_ble_eq_true rfl)
  rw [lg_entry_eq]
  generalize (lg_sl ([.ref (a 0), .int p0, .int p1] : List Value) ++ List.replicate (8 - (lg_sl ([.ref (a 0), .int p0, .int p1] : List Value)).length) Slot.unset).toArray = ls at hl ⊢
  have hl : lv_has ls 8 [(0, .ref (a 0)), (1, .int p0), (2, .int p1)] := hl
  unfold Mo_shift_w at hw
  obtain ⟨H, hH⟩ : ∃ H, H = s.heap := ⟨_, rfl⟩
  obtain ⟨locs, hlo⟩ : ∃ q : List Loc, q = [] := ⟨_, rfl⟩
  have hP : va_P (dC, dI) vwCl (mw cI cJ cG cZ a fi fl ai al) H := by rw [hH]; exact hP
  have hS : va_S A s.heap H locs := by rw [hH, hlo]; exact hS
  have key : W p l e (headSpec ws_Mo_shift ({ frames := 2, cells := 0, slots := 0, locals := 46 })).room s m ([.ref (a 0), .int p0, .int p1] : List Value).toArray below meth c H locs 0 0 (MQ below (va_Qi (fun r (u : zw_Z) => (zw_k_fi_air fl al K) r u.1 u.2.1 u.2.2.1 u.2.2.2) (fun u t => zw_E (dC, dI) vwCl [(cI, .int), (cJ, .long), (cG, .array .int), (cZ, .boolean)] A (mw cI cJ cG cZ a u.1 u.2.1 u.2.2.1 u.2.2.2) t) A) ([.ref (a 0), .int p0, .int p1] : List Value).toArray s 0 0 A) (F0 m 0 ls []) := by
    refine lv_aload_n hx hb d_Mo_shift_0 rfl (lv_at hl 0 rfl) ?_
    refine lv_iload_n hx hb d_Mo_shift_1 rfl (lv_at hl 1 rfl) ?_
    refine vp_callSi (va_Run.run (va_runV (As := [.int p0]) (rest := []) ⟨hx, hb, hml, hown, hts⟩ (c_Mo_isStage l dC dI cI cJ cG cZ a fi fl ai al p0 _ hw) (cwV 1 hts (zw_goodV kw_836 kw_838 kw_s29 kw_9 kw_839) rfl rfl rfl hd_Mo_isStage ⟨Nat.le_of_ble_eq_true rfl, Nat.le_of_ble_eq_true rfl⟩) (zw_preV (ci := 7) (q0 := 0) hK hN hP rfl rfl) rfl rfl hl.1 rfl (lv_room (Nat.le_of_ble_eq_true rfl)) d_Mo_shift_2 ⟨Nat.le_of_ble_eq_true rfl, Nat.le_of_ble_eq_true rfl⟩)) (fun r2 hw => ?_)
    refine lv_if_ne (tgt := 10) hx hb d_Mo_shift_5 (by decide) (fun c5 => ?_) (fun c5 => ?_)
    · have hw := zw_ite_f c5 hw
      refine lv_aload_n hx hb d_Mo_shift_10 rfl (lv_at hl 0 rfl) ?_
      refine va_get (D := (dC, dI)) (ci := 7) (v := .ref (a 9)) (C := R_Mo) (T := T_Mo) (N := 36) hx hb ht in_Mo hown hK hP 0 rfl rfl 10 (by decide) (ht _ kw_623) (fun _ h9 => h9) rfl d_Mo_shift_11 ?_
      refine lv_iload_n hx hb d_Mo_shift_14 rfl (lv_at hl 1 rfl) ?_
      obtain ⟨h15, hw⟩ := hw
      refine va_iald (f := ai 9) hx hb hK hP 9 0 rfl rfl h15 d_Mo_shift_15 ?_
      refine lv_i2l hx hb d_Mo_shift_16 rfl ?_
      refine lv_iload_n hx hb d_Mo_shift_17 rfl (lv_at hl 2 rfl) ?_
      refine lv_i2l hx hb d_Mo_shift_18 rfl ?_
      refine lv_ladd hx hb d_Mo_shift_19 ?_
      refine lv_topl (fun v20 ev20 => ?_)
      have hw := zw_nm_x ev20 hw
      refine lv_lstore_n (lv' := [(3, .long v20), (0, .ref (a 0)), (1, .int p0), (2, .int p1)]) hx hb d_Mo_shift_20 rfl hl (by decide) rfl (fun ls hl => ?_)
      refine lv_aload_n hx hb d_Mo_shift_21 rfl (lv_at hl 1 rfl) ?_
      refine vp_callSi (va_Run.run (va_runV (As := []) (rest := []) ⟨hx, hb, hml, hown, hts⟩ (c_Mo_lastDay l dC dI cI cJ cG cZ a fi fl ai al _ hw) (cwV 0 hts (zw_goodV kw_774 kw_776 kw_s19 kw_9 kw_777) rfl rfl rfl hd_Mo_lastDay ⟨Nat.le_of_ble_eq_true rfl, Nat.le_of_ble_eq_true rfl⟩) (zw_preV (ci := 7) (q0 := 0) hK hN hP rfl rfl) rfl rfl hl.1 rfl (lv_room (Nat.le_of_ble_eq_true rfl)) d_Mo_shift_22 ⟨Nat.le_of_ble_eq_true rfl, Nat.le_of_ble_eq_true rfl⟩)) (fun r22 hw => ?_)
      refine lv_i2l hx hb d_Mo_shift_25 rfl ?_
      refine lv_iload_n hx hb d_Mo_shift_26 rfl (lv_at hl 3 rfl) ?_
      refine lv_i2l hx hb d_Mo_shift_27 rfl ?_
      refine lv_ladd hx hb d_Mo_shift_28 ?_
      refine lv_topl (fun v29 ev29 => ?_)
      have hw := zw_nm_x ev29 hw
      refine lv_lstore (lv' := [(5, .long v29), (3, .long v20), (0, .ref (a 0)), (1, .int p0), (2, .int p1)]) hx hb d_Mo_shift_29 hl (by decide) rfl (fun ls hl => ?_)
      refine lv_lload_n hx hb d_Mo_shift_31 rfl (lv_at hl 1 rfl) ?_
      refine lv_lconst (v := (0 : Int64)) hx hb d_Mo_shift_32 (by decide) ?_
      refine W.lcmp hx hb d_Mo_shift_33 ?_
      refine lv_if_lt (tgt := 64) hx hb d_Mo_shift_34 (by decide) (fun c34 => ?_) (fun c34 => ?_)
      · have hw := zw_ite_t (zw_lg_lt.mp c34) hw
        refine lv_iconst (v := (0 : Int32)) hx hb d_Mo_shift_64 (by decide) ?_
        exact W.zret (v := (0 : Int32)) (ty := .boolean) hx hb hr rfl (fun t ht hW => ⟨⟨(0 : Int32), (fi, fl, ai, al), rfl, ⟨rfl, rfl, hw⟩, by rw [ht]; exact hP, va_K.moved hW.alike hK, hD⟩, hS.F ht⟩) hS.2.2 d_Mo_shift_65
      · have hw := zw_ite_f (mt zw_lg_lt.mpr c34) hw
        refine lv_lload hx hb d_Mo_shift_37 (lv_at hl 0 rfl) ?_
        refine lv_ldc2 (v := (20000 : Int64)) hx hb hown (hts (.constantLong R_Mo 129 (20000 : Int64)) (by decide +kernel)) d_Mo_shift_39 ?_
        refine W.lcmp hx hb d_Mo_shift_42 ?_
        refine lv_if_gt (tgt := 64) hx hb d_Mo_shift_43 (by decide) (fun c43 => ?_) (fun c43 => ?_)
        · have hw := zw_ite_t (zw_lg_gt.mp c43) hw
          refine lv_iconst (v := (0 : Int32)) hx hb d_Mo_shift_64 (by decide) ?_
          exact W.zret (v := (0 : Int32)) (ty := .boolean) hx hb hr rfl (fun t ht hW => ⟨⟨(0 : Int32), (fi, fl, ai, al), rfl, ⟨rfl, rfl, hw⟩, by rw [ht]; exact hP, va_K.moved hW.alike hK, hD⟩, hS.F ht⟩) hS.2.2 d_Mo_shift_65
        · have hw := zw_ite_f (mt zw_lg_gt.mpr c43) hw
          refine lv_iload_n hx hb d_Mo_shift_46 rfl (lv_at hl 3 rfl) ?_
          refine zw_jn0_i (P := ∀ (H : Heap) (locs : List Loc) (ls : Array Slot), va_P (dC, dI) vwCl (mw cI cJ cG cZ a fi fl ai al) H → va_D A (mw cI cJ cG cZ a fi fl ai al) → va_S A s.heap H locs → lv_has ls 8 [(0, .ref (a 0)), (1, .int p0), (2, .int p1)] → W p l e (headSpec ws_Mo_shift ({ frames := 2, cells := 0, slots := 0, locals := 46 })).room s m ([.ref (a 0), .int p0, .int p1] : List Value).toArray below meth c H locs 0 0 (MQ below (va_Qi (fun r (u : zw_Z) => (zw_k_fi_air fl al K) r u.1 u.2.1 u.2.2.1 u.2.2.2) (fun u t => zw_E (dC, dI) vwCl [(cI, .int), (cJ, .long), (cG, .array .int), (cZ, .boolean)] A (mw cI cJ cG cZ a u.1 u.2.1 u.2.2.1 u.2.2.2) t) A) ([.ref (a 0), .int p0, .int p1] : List Value).toArray s 0 0 A) (F0 m 66 ls [])) hw (fun hw H locs ls hP hD hS hl => ?_) (fun J66 hj66 hw => ?_)
          · refine lv_iload_n hx hb d_Mo_shift_66 rfl (lv_at hl 1 rfl) ?_
            refine lv_istore (lv' := [(7, .int p0), (0, .ref (a 0)), (1, .int p0), (2, .int p1)]) hx hb d_Mo_shift_67 hl (by decide) rfl (fun ls hl => ?_)
            refine (zw_lp2_i (P := fun (x69_7 : Int32) (ai69 : Nat → Nat → Int32) => ∀ (H : Heap) (locs : List Loc) (ls : Array Slot), va_P (dC, dI) vwCl (mw cI cJ cG cZ a fi fl ai69 al) H → va_D A (mw cI cJ cG cZ a fi fl ai69 al) → va_S A s.heap H locs → lv_has ls 8 [(0, .ref (a 0)), (2, .int p1), (7, .int x69_7)] → W p l e (headSpec ws_Mo_shift ({ frames := 2, cells := 0, slots := 0, locals := 46 })).room s m ([.ref (a 0), .int p0, .int p1] : List Value).toArray below meth c H locs 0 0 (MQ below (va_Qi (fun r (u : zw_Z) => (zw_k_fi_air fl al K) r u.1 u.2.1 u.2.2.1 u.2.2.2) (fun u t => zw_E (dC, dI) vwCl [(cI, .int), (cJ, .long), (cG, .array .int), (cZ, .boolean)] A (mw cI cJ cG cZ a u.1 u.2.1 u.2.2.1 u.2.2.2) t) A) ([.ref (a 0), .int p0, .int p1] : List Value).toArray s 0 0 A) (F0 m 69 ls [])) hw (fun L69 x69_7 ai69 ih69 hw H locs ls hP hD hS hl => ?_)) H locs ls hP hD hS (lv_sub hl [1, 3, 0] rfl)
            refine lv_iload hx hb d_Mo_shift_69 (lv_at hl 2 rfl) ?_
            refine lv_aload_n hx hb d_Mo_shift_71 rfl (lv_at hl 0 rfl) ?_
            refine va_get (D := (dC, dI)) (ci := 7) (v := .int (fi 2)) (C := R_Mo) (T := T_Mo) (N := 36) hx hb ht in_Mo hown hK hP 0 rfl rfl 11 (by decide) (ht _ kw_624) (fun _ h9 => h9) rfl d_Mo_shift_72 ?_
            refine lv_icmp_ge (tgt := 100) hx hb d_Mo_shift_75 (by decide) (fun c75 => ?_) (fun c75 => ?_)
            · have hw := zw_ite_t c75 hw
              refine lv_aload_n hx hb d_Mo_shift_100 rfl (lv_at hl 0 rfl) ?_
              refine zw_cv (va_runV (As := []) (rest := []) ⟨hx, hb, hml, hown, hts⟩ (c_Mo_lookAtEnd l dC dI cI cJ cG cZ a H.size fi fl ai69 al _ hw) (cwV 0 hts (zw_goodV kw_779 kw_781 kw_s20 kw_9 kw_782) rfl rfl rfl hd_Mo_lookAtEnd ⟨Nat.le_of_ble_eq_true rfl, Nat.le_of_ble_eq_true rfl⟩) (zw_preVw (ci := 7) (q0 := 0) hK hN hP hD rfl rfl) rfl rfl hl.1 rfl (lv_room (Nat.le_of_ble_eq_true rfl)) d_Mo_shift_101 ⟨Nat.le_of_ble_eq_true rfl, Nat.le_of_ble_eq_true rfl⟩) hD hS hA (fun fi_101 fl_101 ai_101 al_101 H locs hw hP hD hS => ?_)
              obtain ⟨rfl, rfl, rfl, hw⟩ := hw
              refine lv_iconst (v := (1 : Int32)) hx hb d_Mo_shift_104 (by decide) ?_
              exact W.zret (v := (1 : Int32)) (ty := .boolean) hx hb hr rfl (fun t ht hW => ⟨⟨(1 : Int32), (fi_101, fl, ai69, al), rfl, ⟨rfl, rfl, hw⟩, by rw [ht]; exact hP, va_K.moved hW.alike hK, hD⟩, hS.F ht⟩) hS.2.2 d_Mo_shift_105
            · have hw := zw_ite_f c75 hw
              refine lv_aload_n hx hb d_Mo_shift_78 rfl (lv_at hl 0 rfl) ?_
              refine va_get (D := (dC, dI)) (ci := 7) (v := .ref (a 9)) (C := R_Mo) (T := T_Mo) (N := 36) hx hb ht in_Mo hown hK hP 0 rfl rfl 10 (by decide) (ht _ kw_623) (fun _ h9 => h9) rfl d_Mo_shift_79 ?_
              refine lv_iload hx hb d_Mo_shift_82 (lv_at hl 2 rfl) ?_
              refine lv_aload_n hx hb d_Mo_shift_84 rfl (lv_at hl 0 rfl) ?_
              refine va_get (D := (dC, dI)) (ci := 7) (v := .ref (a 9)) (C := R_Mo) (T := T_Mo) (N := 36) hx hb ht in_Mo hown hK hP 0 rfl rfl 10 (by decide) (ht _ kw_623) (fun _ h9 => h9) rfl d_Mo_shift_85 ?_
              refine lv_iload hx hb d_Mo_shift_88 (lv_at hl 2 rfl) ?_
              obtain ⟨h90, hw⟩ := hw
              refine va_iald (f := ai69 9) hx hb hK hP 9 0 rfl rfl h90 d_Mo_shift_90 ?_
              refine lv_iload_n hx hb d_Mo_shift_91 rfl (lv_at hl 1 rfl) ?_
              refine lv_iadd hx hb d_Mo_shift_92 ?_
              obtain ⟨h93, hw⟩ := hw
              refine va_iast (f := ai69 9) hx hb hK hP hD hS 9 0 rfl rfl h93 d_Mo_shift_93 (fun H locs hP hD hS => ?_)
              have hP := mwpai_9 hP
              have hD := mwdai_9 hD
              obtain ⟨ai_93, eai_93⟩ : ∃ z, z = va_up ai69 9 (upd (ai69 9) x69_7.toNatClampNeg ((ai69 9 x69_7.toNatClampNeg) + p1)) := ⟨_, rfl⟩
              rw [← eai_93] at hP hD
              have hw := zw_nm_x eai_93 hw
              obtain ⟨v94, ev94⟩ : ∃ y : Int32, y = x69_7 + (1 : Int32) := ⟨_, rfl⟩
              refine lv_iinc (v := v94) (lv' := [(7, .int v94), (0, .ref (a 0)), (2, .int p1)]) hx hb d_Mo_shift_94 hl (k := 2) rfl (by rw [ev94]; rfl) (by decide) rfl (fun ls hl => ?_)
              have hw := zw_nm_x ev94 hw
              refine lv_goto (tgt := 69) hx hb d_Mo_shift_97 (by decide) ?_
              exact (ih69 v94 ai_93 hw) H locs ls hP hD hS (lv_sub hl [1, 2, 0] rfl)
          · refine lv_if_le (tgt := 66) hx hb d_Mo_shift_47 (by decide) (fun c47 => ?_) (fun c47 => ?_)
            · have hw := zw_ite_t c47 hw
              exact (hj66  hw) H locs ls hP hD hS (lv_sub hl [2, 3, 4] rfl)
            · have hw := zw_ite_f c47 hw
              refine lv_lload_n hx hb d_Mo_shift_50 rfl (lv_at hl 1 rfl) ?_
              refine lv_aload_n hx hb d_Mo_shift_51 rfl (lv_at hl 2 rfl) ?_
              refine va_get (D := (dC, dI)) (ci := 7) (v := .ref (a 9)) (C := R_Mo) (T := T_Mo) (N := 36) hx hb ht in_Mo hown hK hP 0 rfl rfl 10 (by decide) (ht _ kw_623) (fun _ h9 => h9) rfl d_Mo_shift_52 ?_
              refine lv_iload_n hx hb d_Mo_shift_55 rfl (lv_at hl 3 rfl) ?_
              refine lv_iconst (v := (1 : Int32)) hx hb d_Mo_shift_56 (by decide) ?_
              refine lv_isub hx hb d_Mo_shift_57 ?_
              obtain ⟨h58, hw⟩ := hw
              refine va_iald (f := ai 9) hx hb hK hP 9 0 rfl rfl h58 d_Mo_shift_58 ?_
              refine lv_i2l hx hb d_Mo_shift_59 rfl ?_
              refine W.lcmp hx hb d_Mo_shift_60 ?_
              refine lv_if_gt (tgt := 66) hx hb d_Mo_shift_61 (by decide) (fun c61 => ?_) (fun c61 => ?_)
              · have hw := zw_ite_t (zw_lg_gt.mp c61) hw
                exact (hj66  hw) H locs ls hP hD hS (lv_sub hl [2, 3, 4] rfl)
              · have hw := zw_ite_f (mt zw_lg_gt.mpr c61) hw
                refine lv_iconst (v := (0 : Int32)) hx hb d_Mo_shift_64 (by decide) ?_
                exact W.zret (v := (0 : Int32)) (ty := .boolean) hx hb hr rfl (fun t ht hW => ⟨⟨(0 : Int32), (fi, fl, ai, al), rfl, ⟨rfl, rfl, hw⟩, by rw [ht]; exact hP, va_K.moved hW.alike hK, hD⟩, hS.F ht⟩) hS.2.2 d_Mo_shift_65
    · have hw := zw_ite_t c5 hw
      refine lv_iconst (v := (0 : Int32)) hx hb d_Mo_shift_8 (by decide) ?_
      exact W.zret (v := (0 : Int32)) (ty := .boolean) hx hb hr rfl (fun t ht hW => ⟨⟨(0 : Int32), (fi, fl, ai, al), rfl, ⟨rfl, rfl, hw⟩, by rw [ht]; exact hP, va_K.moved hW.alike hK, hD⟩, hS.F ht⟩) hS.2.2 d_Mo_shift_9
  rw [hH, hlo] at key
  exact key
