def Mo_comesAfter_w (fi : Nat → Int32) (fl : Nat → Int64) (ai : Nat → Nat → Int32) (al : Nat → Nat → Int64) (p0 : Int32) (p1 : Int32) (K : Int32 → (Nat → Nat → Int32) → Prop) : Prop :=
  zw_nm (0 : Int32) (fun (v1 : Int32) =>
  zw_lp2 (fun L2 (x2_3 : Int32) (ai2 : Nat → Nat → Int32) =>
  if (6 : Int32) ≤ x2_3 then (
    zw_nm (0 : Int32) (fun (v31 : Int32) =>
    zw_lp2 (fun L32 (x32_3 : Int32) (ai32 : Nat → Nat → Int32) =>
    if (6 : Int32) ≤ x32_3 then (
      vp_in p0 6 ∧ (
      zw_bool (ai32 27 p0.toNatClampNeg) ∧ (K (ai32 27 p0.toNatClampNeg) ai32)))
    else (
      zw_nm (0 : Int32) (fun (v39 : Int32) =>
      zw_lp2 (fun L41 (x41_4 : Int32) (ai41 : Nat → Nat → Int32) =>
      if (36 : Int32) ≤ x41_4 then (
        zw_nm (x32_3 + (1 : Int32)) (fun (v105 : Int32) =>
        L32 v105 ai41))
      else (
        ¬ (6 : Int32) = 0 ∧ (
        ¬ (6 : Int32) = 0 ∧ (
        vp_in (x41_4 - x41_4 / (6 : Int32) * (6 : Int32)) 6 ∧ (
        zw_jn1 (fun (y98_0 : Int32) =>
        vp_in (x41_4 - x41_4 / (6 : Int32) * (6 : Int32)) 6 ∧ (zw_nm (va_up ai41 27 (upd (ai41 27) (x41_4 - x41_4 / (6 : Int32) * (6 : Int32)).toNatClampNeg (vp_nar .boolean y98_0))) (fun (ai_98 : Nat → Nat → Int32) =>
        zw_nm (x41_4 + (1 : Int32)) (fun (v99 : Int32) =>
        L41 v99 ai_98)))) (fun J98 =>
        zw_jn0 (
        J98 (1 : Int32)) (fun J93 =>
        if (ai41 27 (x41_4 - x41_4 / (6 : Int32) * (6 : Int32)).toNatClampNeg) = 0 then (
          vp_in x41_4 36 ∧ (
          zw_jn0 (
          J98 (0 : Int32)) (fun J97 =>
          if (ai41 8 x41_4.toNatClampNeg) = 0 then (
            J97)
          else (
            ¬ (6 : Int32) = 0 ∧ (
            vp_in (x41_4 / (6 : Int32)) 6 ∧ (
            if (ai41 27 (x41_4 / (6 : Int32)).toNatClampNeg) = 0 then (
              J97)
            else (
              J93)))))))
        else (
          J93)))))))) v39 ai32))) v31 ai2))
  else (
    zw_jn1 (fun (y23_0 : Int32) =>
    vp_in x2_3 6 ∧ (zw_nm (va_up ai2 27 (upd (ai2 27) x2_3.toNatClampNeg (vp_nar .boolean y23_0))) (fun (ai_23 : Nat → Nat → Int32) =>
    zw_nm (x2_3 + (1 : Int32)) (fun (v24 : Int32) =>
    L2 v24 ai_23)))) (fun J23 =>
    if x2_3 = p1 then (
      J23 (1 : Int32))
    else (
      J23 (0 : Int32))))) v1 ai)
theorem d_Mo_comesAfter_0 : decode b_Mo_comesAfter 0 = .ok (.iconst 0, 1) := by decide +kernel
theorem d_Mo_comesAfter_1 : decode b_Mo_comesAfter 1 = .ok (.istore_n 3, 1) := by decide +kernel
theorem d_Mo_comesAfter_2 : decode b_Mo_comesAfter 2 = .ok (.iload_n 3, 1) := by decide +kernel
theorem d_Mo_comesAfter_3 : decode b_Mo_comesAfter 3 = .ok (.bipush (6), 2) := by decide +kernel
theorem d_Mo_comesAfter_5 : decode b_Mo_comesAfter 5 = .ok (.if_icmp .ge (25), 3) := by decide +kernel
theorem d_Mo_comesAfter_8 : decode b_Mo_comesAfter 8 = .ok (.aload_n 0, 1) := by decide +kernel
theorem d_Mo_comesAfter_9 : decode b_Mo_comesAfter 9 = .ok (.getfield 97, 3) := by decide +kernel
theorem d_Mo_comesAfter_12 : decode b_Mo_comesAfter 12 = .ok (.iload_n 3, 1) := by decide +kernel
theorem d_Mo_comesAfter_13 : decode b_Mo_comesAfter 13 = .ok (.iload_n 3, 1) := by decide +kernel
theorem d_Mo_comesAfter_14 : decode b_Mo_comesAfter 14 = .ok (.iload_n 2, 1) := by decide +kernel
theorem d_Mo_comesAfter_15 : decode b_Mo_comesAfter 15 = .ok (.if_icmp .ne (7), 3) := by decide +kernel
theorem d_Mo_comesAfter_18 : decode b_Mo_comesAfter 18 = .ok (.iconst 1, 1) := by decide +kernel
theorem d_Mo_comesAfter_19 : decode b_Mo_comesAfter 19 = .ok (.goto (4), 3) := by decide +kernel
theorem d_Mo_comesAfter_22 : decode b_Mo_comesAfter 22 = .ok (.iconst 0, 1) := by decide +kernel
theorem d_Mo_comesAfter_23 : decode b_Mo_comesAfter 23 = .ok (.bastore, 1) := by decide +kernel
theorem d_Mo_comesAfter_24 : decode b_Mo_comesAfter 24 = .ok (.iinc 3 (1), 3) := by decide +kernel
theorem d_Mo_comesAfter_27 : decode b_Mo_comesAfter 27 = .ok (.goto (-25), 3) := by decide +kernel
theorem d_Mo_comesAfter_30 : decode b_Mo_comesAfter 30 = .ok (.iconst 0, 1) := by decide +kernel
theorem d_Mo_comesAfter_31 : decode b_Mo_comesAfter 31 = .ok (.istore_n 3, 1) := by decide +kernel
theorem d_Mo_comesAfter_32 : decode b_Mo_comesAfter 32 = .ok (.iload_n 3, 1) := by decide +kernel
theorem d_Mo_comesAfter_33 : decode b_Mo_comesAfter 33 = .ok (.bipush (6), 2) := by decide +kernel
theorem d_Mo_comesAfter_35 : decode b_Mo_comesAfter 35 = .ok (.if_icmp .ge (76), 3) := by decide +kernel
theorem d_Mo_comesAfter_38 : decode b_Mo_comesAfter 38 = .ok (.iconst 0, 1) := by decide +kernel
theorem d_Mo_comesAfter_39 : decode b_Mo_comesAfter 39 = .ok (.istore 4, 2) := by decide +kernel
theorem d_Mo_comesAfter_41 : decode b_Mo_comesAfter 41 = .ok (.iload 4, 2) := by decide +kernel
theorem d_Mo_comesAfter_43 : decode b_Mo_comesAfter 43 = .ok (.bipush (36), 2) := by decide +kernel
theorem d_Mo_comesAfter_45 : decode b_Mo_comesAfter 45 = .ok (.if_icmp .ge (60), 3) := by decide +kernel
theorem d_Mo_comesAfter_48 : decode b_Mo_comesAfter 48 = .ok (.aload_n 0, 1) := by decide +kernel
theorem d_Mo_comesAfter_49 : decode b_Mo_comesAfter 49 = .ok (.getfield 97, 3) := by decide +kernel
theorem d_Mo_comesAfter_52 : decode b_Mo_comesAfter 52 = .ok (.iload 4, 2) := by decide +kernel
theorem d_Mo_comesAfter_54 : decode b_Mo_comesAfter 54 = .ok (.bipush (6), 2) := by decide +kernel
theorem d_Mo_comesAfter_56 : decode b_Mo_comesAfter 56 = .ok (.irem, 1) := by decide +kernel
theorem d_Mo_comesAfter_57 : decode b_Mo_comesAfter 57 = .ok (.aload_n 0, 1) := by decide +kernel
theorem d_Mo_comesAfter_58 : decode b_Mo_comesAfter 58 = .ok (.getfield 97, 3) := by decide +kernel
theorem d_Mo_comesAfter_61 : decode b_Mo_comesAfter 61 = .ok (.iload 4, 2) := by decide +kernel
theorem d_Mo_comesAfter_63 : decode b_Mo_comesAfter 63 = .ok (.bipush (6), 2) := by decide +kernel
theorem d_Mo_comesAfter_65 : decode b_Mo_comesAfter 65 = .ok (.irem, 1) := by decide +kernel
theorem d_Mo_comesAfter_66 : decode b_Mo_comesAfter 66 = .ok (.baload, 1) := by decide +kernel
theorem d_Mo_comesAfter_67 : decode b_Mo_comesAfter 67 = .ok (.ifCond .ne (26), 3) := by decide +kernel
theorem d_Mo_comesAfter_70 : decode b_Mo_comesAfter 70 = .ok (.aload_n 0, 1) := by decide +kernel
theorem d_Mo_comesAfter_71 : decode b_Mo_comesAfter 71 = .ok (.getfield 31, 3) := by decide +kernel
theorem d_Mo_comesAfter_74 : decode b_Mo_comesAfter 74 = .ok (.iload 4, 2) := by decide +kernel
theorem d_Mo_comesAfter_76 : decode b_Mo_comesAfter 76 = .ok (.baload, 1) := by decide +kernel
theorem d_Mo_comesAfter_77 : decode b_Mo_comesAfter 77 = .ok (.ifCond .eq (20), 3) := by decide +kernel
theorem d_Mo_comesAfter_80 : decode b_Mo_comesAfter 80 = .ok (.aload_n 0, 1) := by decide +kernel
theorem d_Mo_comesAfter_81 : decode b_Mo_comesAfter 81 = .ok (.getfield 97, 3) := by decide +kernel
theorem d_Mo_comesAfter_84 : decode b_Mo_comesAfter 84 = .ok (.iload 4, 2) := by decide +kernel
theorem d_Mo_comesAfter_86 : decode b_Mo_comesAfter 86 = .ok (.bipush (6), 2) := by decide +kernel
theorem d_Mo_comesAfter_88 : decode b_Mo_comesAfter 88 = .ok (.idiv, 1) := by decide +kernel
theorem d_Mo_comesAfter_89 : decode b_Mo_comesAfter 89 = .ok (.baload, 1) := by decide +kernel
theorem d_Mo_comesAfter_90 : decode b_Mo_comesAfter 90 = .ok (.ifCond .eq (7), 3) := by decide +kernel
theorem d_Mo_comesAfter_93 : decode b_Mo_comesAfter 93 = .ok (.iconst 1, 1) := by decide +kernel
theorem d_Mo_comesAfter_94 : decode b_Mo_comesAfter 94 = .ok (.goto (4), 3) := by decide +kernel
theorem d_Mo_comesAfter_97 : decode b_Mo_comesAfter 97 = .ok (.iconst 0, 1) := by decide +kernel
theorem d_Mo_comesAfter_98 : decode b_Mo_comesAfter 98 = .ok (.bastore, 1) := by decide +kernel
theorem d_Mo_comesAfter_99 : decode b_Mo_comesAfter 99 = .ok (.iinc 4 (1), 3) := by decide +kernel
theorem d_Mo_comesAfter_102 : decode b_Mo_comesAfter 102 = .ok (.goto (-61), 3) := by decide +kernel
theorem d_Mo_comesAfter_105 : decode b_Mo_comesAfter 105 = .ok (.iinc 3 (1), 3) := by decide +kernel
theorem d_Mo_comesAfter_108 : decode b_Mo_comesAfter 108 = .ok (.goto (-76), 3) := by decide +kernel
theorem d_Mo_comesAfter_111 : decode b_Mo_comesAfter 111 = .ok (.aload_n 0, 1) := by decide +kernel
theorem d_Mo_comesAfter_112 : decode b_Mo_comesAfter 112 = .ok (.getfield 97, 3) := by decide +kernel
theorem d_Mo_comesAfter_115 : decode b_Mo_comesAfter 115 = .ok (.iload_n 1, 1) := by decide +kernel
theorem d_Mo_comesAfter_116 : decode b_Mo_comesAfter 116 = .ok (.baload, 1) := by decide +kernel
theorem d_Mo_comesAfter_117 : decode b_Mo_comesAfter 117 = .ok (.ireturn, 1) := by decide +kernel
set_option maxHeartbeats 4000000 in
set_option maxRecDepth 100000 in
theorem c_Mo_comesAfter (l : Launch) (dC : Nat → ClassId) (dI : Nat → Nat → Nat) (cI cJ cG cZ : ClassId) (a : Nat → Nat) (sz : Nat) (fi : Nat → Int32) (fl : Nat → Int64) (ai : Nat → Nat → Int32) (al : Nat → Nat → Int64) (p0 : Int32) (p1 : Int32) (K : Int32 → (Nat → Nat → Int32) → Prop) (hw : Mo_comesAfter_w fi fl ai al p0 p1 K) : Met l y_Mo_comesAfter ws_Mo_comesAfter ({ frames := 0, cells := 0, slots := 0, locals := 0 }) (va_Pc [.ref (a 0), .int p0, .int p1] (zw_Bw (dC, dI) vwCl [(cI, .int), (cJ, .long), (cG, .array .int), (cZ, .boolean)] (mw cI cJ cG cZ a fi fl ai al) sz)) (va_Qi (fun r (u : zw_Z) => (zw_k_air fi fl al K) r u.1 u.2.1 u.2.2.1 u.2.2.2) (fun u t => zw_E (dC, dI) vwCl [(cI, .int), (cJ, .long), (cG, .array .int), (cZ, .boolean)] (va_A (mw cI cJ cG cZ a fi fl ai al) sz) (mw cI cJ cG cZ a u.1 u.2.1 u.2.2.1 u.2.2.2) t) (va_A (mw cI cJ cG cZ a fi fl ai al) sz)) 0 0 (va_A (mw cI cJ cG cZ a fi fl ai al) sz) := by
  refine Met.ofW (cc := b_Mo_comesAfter) (maxL := 5) (ret := (Option.some FieldType.boolean)) (by decide) rfl ?_
  intro p e s m args below meth c s₁ B hml hv
  obtain ⟨rfl, hsz, hP, hK, hD0, hN⟩ := hv
  have hx := B.exec
  have hb := B.bytes
  have hr := B.returns
  have hts := atoms_spec (ws := ws_Mo_comesAfter) B.pre
  have ht : ∀ w ∈ zw_tbl, w.before _ s = true := fun w h => hts w (List.mem_cons_of_mem _ h)
  have hown : s.vm.findClass R_Mo = some m.cls := findClass_of_methodNamed B.named
  have hlocks := B.notSynchronized
  subst hsz
  have hD := hD0.self (sz := s.heap.size)
  generalize hAe : va_A (mw cI cJ cG cZ a fi fl ai al) s.heap.size = A at hD ⊢
  have hA : ∀ q : Nat, s.heap.size ≤ q → A q := fun q h => by rw [← hAe]; exact Or.inr h
  have hS : va_S A s.heap s.heap [] := va_S.rf
  have hl := lv_entry ([.ref (a 0), .int p0, .int p1] : List Value) (n := 5) (Nat.le_of_ble_eq_true rfl)
  rw [lg_entry_eq]
  generalize (lg_sl ([.ref (a 0), .int p0, .int p1] : List Value) ++ List.replicate (5 - (lg_sl ([.ref (a 0), .int p0, .int p1] : List Value)).length) Slot.unset).toArray = ls at hl ⊢
  have hl : lv_has ls 5 [(0, .ref (a 0)), (1, .int p0), (2, .int p1)] := hl
  unfold Mo_comesAfter_w at hw
  obtain ⟨H, hH⟩ : ∃ H, H = s.heap := ⟨_, rfl⟩
  obtain ⟨locs, hlo⟩ : ∃ q : List Loc, q = [] := ⟨_, rfl⟩
  have hP : va_P (dC, dI) vwCl (mw cI cJ cG cZ a fi fl ai al) H := by rw [hH]; exact hP
  have hS : va_S A s.heap H locs := by rw [hH, hlo]; exact hS
  have key : W p l e (headSpec ws_Mo_comesAfter ({ frames := 0, cells := 0, slots := 0, locals := 0 })).room s m ([.ref (a 0), .int p0, .int p1] : List Value).toArray below meth c H locs 0 0 (MQ below (va_Qi (fun r (u : zw_Z) => (zw_k_air fi fl al K) r u.1 u.2.1 u.2.2.1 u.2.2.2) (fun u t => zw_E (dC, dI) vwCl [(cI, .int), (cJ, .long), (cG, .array .int), (cZ, .boolean)] A (mw cI cJ cG cZ a u.1 u.2.1 u.2.2.1 u.2.2.2) t) A) ([.ref (a 0), .int p0, .int p1] : List Value).toArray s 0 0 A) (F0 m 0 ls []) := by
    refine lv_iconst (v := (0 : Int32)) hx hb d_Mo_comesAfter_0 (by decide) ?_
    refine lv_topi (fun v1 ev1 => ?_)
    have hw := zw_nm_x ev1 hw
    refine lv_istore_n (lv' := [(3, .int v1), (0, .ref (a 0)), (1, .int p0), (2, .int p1)]) hx hb d_Mo_comesAfter_1 rfl hl (by decide) rfl (fun ls hl => ?_)
    refine (zw_lp2_i (P := fun (x2_3 : Int32) (ai2 : Nat → Nat → Int32) => ∀ (H : Heap) (locs : List Loc) (ls : Array Slot), va_P (dC, dI) vwCl (mw cI cJ cG cZ a fi fl ai2 al) H → va_D A (mw cI cJ cG cZ a fi fl ai2 al) → va_S A s.heap H locs → lv_has ls 5 [(0, .ref (a 0)), (1, .int p0), (2, .int p1), (3, .int x2_3)] → W p l e (headSpec ws_Mo_comesAfter ({ frames := 0, cells := 0, slots := 0, locals := 0 })).room s m ([.ref (a 0), .int p0, .int p1] : List Value).toArray below meth c H locs 0 0 (MQ below (va_Qi (fun r (u : zw_Z) => (zw_k_air fi fl al K) r u.1 u.2.1 u.2.2.1 u.2.2.2) (fun u t => zw_E (dC, dI) vwCl [(cI, .int), (cJ, .long), (cG, .array .int), (cZ, .boolean)] A (mw cI cJ cG cZ a u.1 u.2.1 u.2.2.1 u.2.2.2) t) A) ([.ref (a 0), .int p0, .int p1] : List Value).toArray s 0 0 A) (F0 m 2 ls [])) hw (fun L2 x2_3 ai2 ih2 hw H locs ls hP hD hS hl => ?_)) H locs ls hP hD hS (lv_sub hl [1, 2, 3, 0] rfl)
    refine lv_iload_n hx hb d_Mo_comesAfter_2 rfl (lv_at hl 3 rfl) ?_
    refine lv_bipush (v := (6 : Int32)) hx hb d_Mo_comesAfter_3 (by decide) ?_
    refine lv_icmp_ge (tgt := 30) hx hb d_Mo_comesAfter_5 (by decide) (fun c5 => ?_) (fun c5 => ?_)
    · have hw := zw_ite_t c5 hw
      refine lv_iconst (v := (0 : Int32)) hx hb d_Mo_comesAfter_30 (by decide) ?_
      refine lv_topi (fun v31 ev31 => ?_)
      have hw := zw_nm_x ev31 hw
      refine lv_istore_n (lv' := [(3, .int v31), (0, .ref (a 0)), (1, .int p0), (2, .int p1)]) hx hb d_Mo_comesAfter_31 rfl hl (by decide) rfl (fun ls hl => ?_)
      refine (zw_lp2_i (P := fun (x32_3 : Int32) (ai32 : Nat → Nat → Int32) => ∀ (H : Heap) (locs : List Loc) (ls : Array Slot), va_P (dC, dI) vwCl (mw cI cJ cG cZ a fi fl ai32 al) H → va_D A (mw cI cJ cG cZ a fi fl ai32 al) → va_S A s.heap H locs → lv_has ls 5 [(0, .ref (a 0)), (1, .int p0), (3, .int x32_3)] → W p l e (headSpec ws_Mo_comesAfter ({ frames := 0, cells := 0, slots := 0, locals := 0 })).room s m ([.ref (a 0), .int p0, .int p1] : List Value).toArray below meth c H locs 0 0 (MQ below (va_Qi (fun r (u : zw_Z) => (zw_k_air fi fl al K) r u.1 u.2.1 u.2.2.1 u.2.2.2) (fun u t => zw_E (dC, dI) vwCl [(cI, .int), (cJ, .long), (cG, .array .int), (cZ, .boolean)] A (mw cI cJ cG cZ a u.1 u.2.1 u.2.2.1 u.2.2.2) t) A) ([.ref (a 0), .int p0, .int p1] : List Value).toArray s 0 0 A) (F0 m 32 ls [])) hw (fun L32 x32_3 ai32 ih32 hw H locs ls hP hD hS hl => ?_)) H locs ls hP hD hS (lv_sub hl [1, 2, 0] rfl)
      refine lv_iload_n hx hb d_Mo_comesAfter_32 rfl (lv_at hl 2 rfl) ?_
      refine lv_bipush (v := (6 : Int32)) hx hb d_Mo_comesAfter_33 (by decide) ?_
      refine lv_icmp_ge (tgt := 111) hx hb d_Mo_comesAfter_35 (by decide) (fun c35 => ?_) (fun c35 => ?_)
      · have hw := zw_ite_t c35 hw
        refine lv_aload_n hx hb d_Mo_comesAfter_111 rfl (lv_at hl 0 rfl) ?_
        refine va_get (D := (dC, dI)) (ci := 7) (v := .ref (a 27)) (C := R_Mo) (T := T_Mo) (N := 36) hx hb ht in_Mo hown hK hP 0 rfl rfl 35 (by decide) (ht _ kw_648) (fun _ h9 => h9) rfl d_Mo_comesAfter_112 ?_
        refine lv_iload_n hx hb d_Mo_comesAfter_115 rfl (lv_at hl 1 rfl) ?_
        obtain ⟨h116, hw⟩ := hw
        refine va_zald (f := ai32 27) hx hb hK hP 27 3 rfl rfl h116 d_Mo_comesAfter_116 ?_
        obtain ⟨hz, hw⟩ := hw
        exact W.zret (v := (ai32 27 p0.toNatClampNeg)) (ty := .boolean) hx hb hr (zw_bool_n hz) (fun t ht hW => ⟨⟨(ai32 27 p0.toNatClampNeg), (fi, fl, ai32, al), rfl, ⟨rfl, rfl, rfl, hw⟩, by rw [ht]; exact hP, va_K.moved hW.alike hK, hD⟩, hS.F ht⟩) hS.2.2 d_Mo_comesAfter_117
      · have hw := zw_ite_f c35 hw
        refine lv_iconst (v := (0 : Int32)) hx hb d_Mo_comesAfter_38 (by decide) ?_
        refine lv_topi (fun v39 ev39 => ?_)
        have hw := zw_nm_x ev39 hw
        refine lv_istore (lv' := [(4, .int v39), (0, .ref (a 0)), (1, .int p0), (3, .int x32_3)]) hx hb d_Mo_comesAfter_39 hl (by decide) rfl (fun ls hl => ?_)
        refine (zw_lp2_i (P := fun (x41_4 : Int32) (ai41 : Nat → Nat → Int32) => ∀ (H : Heap) (locs : List Loc) (ls : Array Slot), va_P (dC, dI) vwCl (mw cI cJ cG cZ a fi fl ai41 al) H → va_D A (mw cI cJ cG cZ a fi fl ai41 al) → va_S A s.heap H locs → lv_has ls 5 [(0, .ref (a 0)), (1, .int p0), (3, .int x32_3), (4, .int x41_4)] → W p l e (headSpec ws_Mo_comesAfter ({ frames := 0, cells := 0, slots := 0, locals := 0 })).room s m ([.ref (a 0), .int p0, .int p1] : List Value).toArray below meth c H locs 0 0 (MQ below (va_Qi (fun r (u : zw_Z) => (zw_k_air fi fl al K) r u.1 u.2.1 u.2.2.1 u.2.2.2) (fun u t => zw_E (dC, dI) vwCl [(cI, .int), (cJ, .long), (cG, .array .int), (cZ, .boolean)] A (mw cI cJ cG cZ a u.1 u.2.1 u.2.2.1 u.2.2.2) t) A) ([.ref (a 0), .int p0, .int p1] : List Value).toArray s 0 0 A) (F0 m 41 ls [])) hw (fun L41 x41_4 ai41 ih41 hw H locs ls hP hD hS hl => ?_)) H locs ls hP hD hS (lv_sub hl [1, 2, 3, 0] rfl)
        refine lv_iload hx hb d_Mo_comesAfter_41 (lv_at hl 3 rfl) ?_
        refine lv_bipush (v := (36 : Int32)) hx hb d_Mo_comesAfter_43 (by decide) ?_
        refine lv_icmp_ge (tgt := 105) hx hb d_Mo_comesAfter_45 (by decide) (fun c45 => ?_) (fun c45 => ?_)
        · have hw := zw_ite_t c45 hw
          obtain ⟨v105, ev105⟩ : ∃ y : Int32, y = x32_3 + (1 : Int32) := ⟨_, rfl⟩
          refine lv_iinc (v := v105) (lv' := [(3, .int v105), (0, .ref (a 0)), (1, .int p0), (4, .int x41_4)]) hx hb d_Mo_comesAfter_105 hl (k := 2) rfl (by rw [ev105]; rfl) (by decide) rfl (fun ls hl => ?_)
          have hw := zw_nm_x ev105 hw
          refine lv_goto (tgt := 32) hx hb d_Mo_comesAfter_108 (by decide) ?_
          exact (ih32 v105 ai41 hw) H locs ls hP hD hS (lv_sub hl [1, 2, 0] rfl)
        · have hw := zw_ite_f c45 hw
          refine lv_aload_n hx hb d_Mo_comesAfter_48 rfl (lv_at hl 0 rfl) ?_
          refine va_get (D := (dC, dI)) (ci := 7) (v := .ref (a 27)) (C := R_Mo) (T := T_Mo) (N := 36) hx hb ht in_Mo hown hK hP 0 rfl rfl 35 (by decide) (ht _ kw_648) (fun _ h9 => h9) rfl d_Mo_comesAfter_49 ?_
          refine lv_iload hx hb d_Mo_comesAfter_52 (lv_at hl 3 rfl) ?_
          refine lv_bipush (v := (6 : Int32)) hx hb d_Mo_comesAfter_54 (by decide) ?_
          obtain ⟨h56, hw⟩ := hw
          refine lv_irem hx hb d_Mo_comesAfter_56 h56 ?_
          refine lv_aload_n hx hb d_Mo_comesAfter_57 rfl (lv_at hl 0 rfl) ?_
          refine va_get (D := (dC, dI)) (ci := 7) (v := .ref (a 27)) (C := R_Mo) (T := T_Mo) (N := 36) hx hb ht in_Mo hown hK hP 0 rfl rfl 35 (by decide) (ht _ kw_648) (fun _ h9 => h9) rfl d_Mo_comesAfter_58 ?_
          refine lv_iload hx hb d_Mo_comesAfter_61 (lv_at hl 3 rfl) ?_
          refine lv_bipush (v := (6 : Int32)) hx hb d_Mo_comesAfter_63 (by decide) ?_
          obtain ⟨h65, hw⟩ := hw
          refine lv_irem hx hb d_Mo_comesAfter_65 h65 ?_
          obtain ⟨h66, hw⟩ := hw
          refine va_zald (f := ai41 27) hx hb hK hP 27 3 rfl rfl h66 d_Mo_comesAfter_66 ?_
          refine zw_jn1_i (P := fun (y98_0 : Int32) => ∀ (H : Heap) (locs : List Loc) (ls : Array Slot), va_P (dC, dI) vwCl (mw cI cJ cG cZ a fi fl ai41 al) H → va_D A (mw cI cJ cG cZ a fi fl ai41 al) → va_S A s.heap H locs → lv_has ls 5 [(0, .ref (a 0)), (1, .int p0), (3, .int x32_3), (4, .int x41_4)] → W p l e (headSpec ws_Mo_comesAfter ({ frames := 0, cells := 0, slots := 0, locals := 0 })).room s m ([.ref (a 0), .int p0, .int p1] : List Value).toArray below meth c H locs 0 0 (MQ below (va_Qi (fun r (u : zw_Z) => (zw_k_air fi fl al K) r u.1 u.2.1 u.2.2.1 u.2.2.2) (fun u t => zw_E (dC, dI) vwCl [(cI, .int), (cJ, .long), (cG, .array .int), (cZ, .boolean)] A (mw cI cJ cG cZ a u.1 u.2.1 u.2.2.1 u.2.2.2) t) A) ([.ref (a 0), .int p0, .int p1] : List Value).toArray s 0 0 A) (F0 m 98 ls [.int y98_0, .int (x41_4 - x41_4 / (6 : Int32) * (6 : Int32)), .ref (a 27)])) hw (fun y98_0 hw H locs ls hP hD hS hl => ?_) (fun J98 hj98 hw => ?_)
          · obtain ⟨h98, hw⟩ := hw
            refine va_zast (f := ai41 27) hx hb hK hP hD hS 27 3 rfl rfl h98 d_Mo_comesAfter_98 (fun H locs hP hD hS => ?_)
            have hP := mwpai_27 hP
            have hD := mwdai_27 hD
            obtain ⟨ai_98, eai_98⟩ : ∃ z, z = va_up ai41 27 (upd (ai41 27) (x41_4 - x41_4 / (6 : Int32) * (6 : Int32)).toNatClampNeg (vp_nar .boolean y98_0)) := ⟨_, rfl⟩
            rw [← eai_98] at hP hD
            have hw := zw_nm_x eai_98 hw
            obtain ⟨v99, ev99⟩ : ∃ y : Int32, y = x41_4 + (1 : Int32) := ⟨_, rfl⟩
            refine lv_iinc (v := v99) (lv' := [(4, .int v99), (0, .ref (a 0)), (1, .int p0), (3, .int x32_3)]) hx hb d_Mo_comesAfter_99 hl (k := 3) rfl (by rw [ev99]; rfl) (by decide) rfl (fun ls hl => ?_)
            have hw := zw_nm_x ev99 hw
            refine lv_goto (tgt := 41) hx hb d_Mo_comesAfter_102 (by decide) ?_
            exact (ih41 v99 ai_98 hw) H locs ls hP hD hS (lv_sub hl [1, 2, 3, 0] rfl)
          · refine zw_jn0_i (P := ∀ (H : Heap) (locs : List Loc) (ls : Array Slot), va_P (dC, dI) vwCl (mw cI cJ cG cZ a fi fl ai41 al) H → va_D A (mw cI cJ cG cZ a fi fl ai41 al) → va_S A s.heap H locs → lv_has ls 5 [(0, .ref (a 0)), (1, .int p0), (3, .int x32_3), (4, .int x41_4)] → W p l e (headSpec ws_Mo_comesAfter ({ frames := 0, cells := 0, slots := 0, locals := 0 })).room s m ([.ref (a 0), .int p0, .int p1] : List Value).toArray below meth c H locs 0 0 (MQ below (va_Qi (fun r (u : zw_Z) => (zw_k_air fi fl al K) r u.1 u.2.1 u.2.2.1 u.2.2.2) (fun u t => zw_E (dC, dI) vwCl [(cI, .int), (cJ, .long), (cG, .array .int), (cZ, .boolean)] A (mw cI cJ cG cZ a u.1 u.2.1 u.2.2.1 u.2.2.2) t) A) ([.ref (a 0), .int p0, .int p1] : List Value).toArray s 0 0 A) (F0 m 93 ls [.int (x41_4 - x41_4 / (6 : Int32) * (6 : Int32)), .ref (a 27)])) hw (fun hw H locs ls hP hD hS hl => ?_) (fun J93 hj93 hw => ?_)
            · refine lv_iconst (v := (1 : Int32)) hx hb d_Mo_comesAfter_93 (by decide) ?_
              refine lv_goto (tgt := 98) hx hb d_Mo_comesAfter_94 (by decide) ?_
              exact (hj98 (1 : Int32) hw) H locs ls hP hD hS (lv_sub hl [0, 1, 2, 3] rfl)
            · refine lv_if_ne (tgt := 93) hx hb d_Mo_comesAfter_67 (by decide) (fun c67 => ?_) (fun c67 => ?_)
              · have hw := zw_ite_f c67 hw
                exact (hj93  hw) H locs ls hP hD hS (lv_sub hl [0, 1, 2, 3] rfl)
              · have hw := zw_ite_t c67 hw
                refine lv_aload_n hx hb d_Mo_comesAfter_70 rfl (lv_at hl 0 rfl) ?_
                refine va_get (D := (dC, dI)) (ci := 7) (v := .ref (a 8)) (C := R_Mo) (T := T_Mo) (N := 36) hx hb ht in_Mo hown hK hP 0 rfl rfl 9 (by decide) (ht _ kw_622) (fun _ h9 => h9) rfl d_Mo_comesAfter_71 ?_
                refine lv_iload hx hb d_Mo_comesAfter_74 (lv_at hl 3 rfl) ?_
                obtain ⟨h76, hw⟩ := hw
                refine va_zald (f := ai41 8) hx hb hK hP 8 3 rfl rfl h76 d_Mo_comesAfter_76 ?_
                refine zw_jn0_i (P := ∀ (H : Heap) (locs : List Loc) (ls : Array Slot), va_P (dC, dI) vwCl (mw cI cJ cG cZ a fi fl ai41 al) H → va_D A (mw cI cJ cG cZ a fi fl ai41 al) → va_S A s.heap H locs → lv_has ls 5 [(0, .ref (a 0)), (1, .int p0), (3, .int x32_3), (4, .int x41_4)] → W p l e (headSpec ws_Mo_comesAfter ({ frames := 0, cells := 0, slots := 0, locals := 0 })).room s m ([.ref (a 0), .int p0, .int p1] : List Value).toArray below meth c H locs 0 0 (MQ below (va_Qi (fun r (u : zw_Z) => (zw_k_air fi fl al K) r u.1 u.2.1 u.2.2.1 u.2.2.2) (fun u t => zw_E (dC, dI) vwCl [(cI, .int), (cJ, .long), (cG, .array .int), (cZ, .boolean)] A (mw cI cJ cG cZ a u.1 u.2.1 u.2.2.1 u.2.2.2) t) A) ([.ref (a 0), .int p0, .int p1] : List Value).toArray s 0 0 A) (F0 m 97 ls [.int (x41_4 - x41_4 / (6 : Int32) * (6 : Int32)), .ref (a 27)])) hw (fun hw H locs ls hP hD hS hl => ?_) (fun J97 hj97 hw => ?_)
                · refine lv_iconst (v := (0 : Int32)) hx hb d_Mo_comesAfter_97 (by decide) ?_
                  exact (hj98 (0 : Int32) hw) H locs ls hP hD hS (lv_sub hl [0, 1, 2, 3] rfl)
                · refine lv_if_eq (tgt := 97) hx hb d_Mo_comesAfter_77 (by decide) (fun c77 => ?_) (fun c77 => ?_)
                  · have hw := zw_ite_t c77 hw
                    exact (hj97  hw) H locs ls hP hD hS (lv_sub hl [0, 1, 2, 3] rfl)
                  · have hw := zw_ite_f c77 hw
                    refine lv_aload_n hx hb d_Mo_comesAfter_80 rfl (lv_at hl 0 rfl) ?_
                    refine va_get (D := (dC, dI)) (ci := 7) (v := .ref (a 27)) (C := R_Mo) (T := T_Mo) (N := 36) hx hb ht in_Mo hown hK hP 0 rfl rfl 35 (by decide) (ht _ kw_648) (fun _ h9 => h9) rfl d_Mo_comesAfter_81 ?_
                    refine lv_iload hx hb d_Mo_comesAfter_84 (lv_at hl 3 rfl) ?_
                    refine lv_bipush (v := (6 : Int32)) hx hb d_Mo_comesAfter_86 (by decide) ?_
                    obtain ⟨h88, hw⟩ := hw
                    refine lv_idiv hx hb d_Mo_comesAfter_88 h88 ?_
                    obtain ⟨h89, hw⟩ := hw
                    refine va_zald (f := ai41 27) hx hb hK hP 27 3 rfl rfl h89 d_Mo_comesAfter_89 ?_
                    refine lv_if_eq (tgt := 97) hx hb d_Mo_comesAfter_90 (by decide) (fun c90 => ?_) (fun c90 => ?_)
                    · have hw := zw_ite_t c90 hw
                      exact (hj97  hw) H locs ls hP hD hS (lv_sub hl [0, 1, 2, 3] rfl)
                    · have hw := zw_ite_f c90 hw
                      exact (hj93  hw) H locs ls hP hD hS (lv_sub hl [0, 1, 2, 3] rfl)
    · have hw := zw_ite_f c5 hw
      refine lv_aload_n hx hb d_Mo_comesAfter_8 rfl (lv_at hl 0 rfl) ?_
      refine va_get (D := (dC, dI)) (ci := 7) (v := .ref (a 27)) (C := R_Mo) (T := T_Mo) (N := 36) hx hb ht in_Mo hown hK hP 0 rfl rfl 35 (by decide) (ht _ kw_648) (fun _ h9 => h9) rfl d_Mo_comesAfter_9 ?_
      refine lv_iload_n hx hb d_Mo_comesAfter_12 rfl (lv_at hl 3 rfl) ?_
      refine lv_iload_n hx hb d_Mo_comesAfter_13 rfl (lv_at hl 3 rfl) ?_
      refine lv_iload_n hx hb d_Mo_comesAfter_14 rfl (lv_at hl 2 rfl) ?_
      refine zw_jn1_i (P := fun (y23_0 : Int32) => ∀ (H : Heap) (locs : List Loc) (ls : Array Slot), va_P (dC, dI) vwCl (mw cI cJ cG cZ a fi fl ai2 al) H → va_D A (mw cI cJ cG cZ a fi fl ai2 al) → va_S A s.heap H locs → lv_has ls 5 [(0, .ref (a 0)), (1, .int p0), (2, .int p1), (3, .int x2_3)] → W p l e (headSpec ws_Mo_comesAfter ({ frames := 0, cells := 0, slots := 0, locals := 0 })).room s m ([.ref (a 0), .int p0, .int p1] : List Value).toArray below meth c H locs 0 0 (MQ below (va_Qi (fun r (u : zw_Z) => (zw_k_air fi fl al K) r u.1 u.2.1 u.2.2.1 u.2.2.2) (fun u t => zw_E (dC, dI) vwCl [(cI, .int), (cJ, .long), (cG, .array .int), (cZ, .boolean)] A (mw cI cJ cG cZ a u.1 u.2.1 u.2.2.1 u.2.2.2) t) A) ([.ref (a 0), .int p0, .int p1] : List Value).toArray s 0 0 A) (F0 m 23 ls [.int y23_0, .int x2_3, .ref (a 27)])) hw (fun y23_0 hw H locs ls hP hD hS hl => ?_) (fun J23 hj23 hw => ?_)
      · obtain ⟨h23, hw⟩ := hw
        refine va_zast (f := ai2 27) hx hb hK hP hD hS 27 3 rfl rfl h23 d_Mo_comesAfter_23 (fun H locs hP hD hS => ?_)
        have hP := mwpai_27 hP
        have hD := mwdai_27 hD
        obtain ⟨ai_23, eai_23⟩ : ∃ z, z = va_up ai2 27 (upd (ai2 27) x2_3.toNatClampNeg (vp_nar .boolean y23_0)) := ⟨_, rfl⟩
        rw [← eai_23] at hP hD
        have hw := zw_nm_x eai_23 hw
        obtain ⟨v24, ev24⟩ : ∃ y : Int32, y = x2_3 + (1 : Int32) := ⟨_, rfl⟩
        refine lv_iinc (v := v24) (lv' := [(3, .int v24), (0, .ref (a 0)), (1, .int p0), (2, .int p1)]) hx hb d_Mo_comesAfter_24 hl (k := 3) rfl (by rw [ev24]; rfl) (by decide) rfl (fun ls hl => ?_)
        have hw := zw_nm_x ev24 hw
        refine lv_goto (tgt := 2) hx hb d_Mo_comesAfter_27 (by decide) ?_
        exact (ih2 v24 ai_23 hw) H locs ls hP hD hS (lv_sub hl [1, 2, 3, 0] rfl)
      · refine lv_icmp_ne (tgt := 22) hx hb d_Mo_comesAfter_15 (by decide) (fun c15 => ?_) (fun c15 => ?_)
        · have hw := zw_ite_f c15 hw
          refine lv_iconst (v := (0 : Int32)) hx hb d_Mo_comesAfter_22 (by decide) ?_
          exact (hj23 (0 : Int32) hw) H locs ls hP hD hS (lv_sub hl [0, 1, 2, 3] rfl)
        · have hw := zw_ite_t c15 hw
          refine lv_iconst (v := (1 : Int32)) hx hb d_Mo_comesAfter_18 (by decide) ?_
          refine lv_goto (tgt := 23) hx hb d_Mo_comesAfter_19 (by decide) ?_
          exact (hj23 (1 : Int32) hw) H locs ls hP hD hS (lv_sub hl [0, 1, 2, 3] rfl)
  rw [hH, hlo] at key
  exact key
def Mo_actOf_w (fi : Nat → Int32) (fl : Nat → Int64) (ai : Nat → Nat → Int32) (al : Nat → Nat → Int64) (p0 : Int32) (K : Int32 → Prop) : Prop :=
  zw_nm (-1 : Int32) (fun (v1 : Int32) =>
  zw_nm (0 : Int32) (fun (v3 : Int32) =>
  zw_lp2 (fun L4 (x4_2 : Int32) (x4_3 : Int32) =>
  if (fi 3) ≤ x4_3 then (
    K x4_2)
  else (
    vp_in x4_3 40 ∧ (
    zw_jn1 (fun (y36_0 : Int32) =>
    zw_nm (x4_3 + (1 : Int32)) (fun (v37 : Int32) =>
    L4 y36_0 v37)) (fun J36 =>
    zw_jn0 (
    J36 x4_2) (fun J35 =>
    if (ai 10 x4_3.toNatClampNeg) = 0 then (
      vp_in x4_3 40 ∧ (
      if (ai 11 x4_3.toNatClampNeg) = p0 then (
        J36 x4_3)
      else (
        J35)))
    else (
      J35)))))) v1 v3))
theorem d_Mo_actOf_0 : decode b_Mo_actOf 0 = .ok (.iconst (-1), 1) := by decide +kernel
theorem d_Mo_actOf_1 : decode b_Mo_actOf 1 = .ok (.istore_n 2, 1) := by decide +kernel
theorem d_Mo_actOf_2 : decode b_Mo_actOf 2 = .ok (.iconst 0, 1) := by decide +kernel
theorem d_Mo_actOf_3 : decode b_Mo_actOf 3 = .ok (.istore_n 3, 1) := by decide +kernel
theorem d_Mo_actOf_4 : decode b_Mo_actOf 4 = .ok (.iload_n 3, 1) := by decide +kernel
theorem d_Mo_actOf_5 : decode b_Mo_actOf 5 = .ok (.aload_n 0, 1) := by decide +kernel
theorem d_Mo_actOf_6 : decode b_Mo_actOf 6 = .ok (.getfield 133, 3) := by decide +kernel
theorem d_Mo_actOf_9 : decode b_Mo_actOf 9 = .ok (.if_icmp .ge (34), 3) := by decide +kernel
theorem d_Mo_actOf_12 : decode b_Mo_actOf 12 = .ok (.aload_n 0, 1) := by decide +kernel
theorem d_Mo_actOf_13 : decode b_Mo_actOf 13 = .ok (.getfield 38, 3) := by decide +kernel
theorem d_Mo_actOf_16 : decode b_Mo_actOf 16 = .ok (.iload_n 3, 1) := by decide +kernel
theorem d_Mo_actOf_17 : decode b_Mo_actOf 17 = .ok (.iaload, 1) := by decide +kernel
theorem d_Mo_actOf_18 : decode b_Mo_actOf 18 = .ok (.ifCond .ne (17), 3) := by decide +kernel
theorem d_Mo_actOf_21 : decode b_Mo_actOf 21 = .ok (.aload_n 0, 1) := by decide +kernel
theorem d_Mo_actOf_22 : decode b_Mo_actOf 22 = .ok (.getfield 41, 3) := by decide +kernel
theorem d_Mo_actOf_25 : decode b_Mo_actOf 25 = .ok (.iload_n 3, 1) := by decide +kernel
theorem d_Mo_actOf_26 : decode b_Mo_actOf 26 = .ok (.iaload, 1) := by decide +kernel
theorem d_Mo_actOf_27 : decode b_Mo_actOf 27 = .ok (.iload_n 1, 1) := by decide +kernel
theorem d_Mo_actOf_28 : decode b_Mo_actOf 28 = .ok (.if_icmp .ne (7), 3) := by decide +kernel
theorem d_Mo_actOf_31 : decode b_Mo_actOf 31 = .ok (.iload_n 3, 1) := by decide +kernel
theorem d_Mo_actOf_32 : decode b_Mo_actOf 32 = .ok (.goto (4), 3) := by decide +kernel
theorem d_Mo_actOf_35 : decode b_Mo_actOf 35 = .ok (.iload_n 2, 1) := by decide +kernel
theorem d_Mo_actOf_36 : decode b_Mo_actOf 36 = .ok (.istore_n 2, 1) := by decide +kernel
theorem d_Mo_actOf_37 : decode b_Mo_actOf 37 = .ok (.iinc 3 (1), 3) := by decide +kernel
theorem d_Mo_actOf_40 : decode b_Mo_actOf 40 = .ok (.goto (-36), 3) := by decide +kernel
theorem d_Mo_actOf_43 : decode b_Mo_actOf 43 = .ok (.iload_n 2, 1) := by decide +kernel
theorem d_Mo_actOf_44 : decode b_Mo_actOf 44 = .ok (.ireturn, 1) := by decide +kernel
set_option maxHeartbeats 4000000 in
set_option maxRecDepth 100000 in
theorem c_Mo_actOf (l : Launch) (dC : Nat → ClassId) (dI : Nat → Nat → Nat) (cI cJ cG cZ : ClassId) (a : Nat → Nat) (fi : Nat → Int32) (fl : Nat → Int64) (ai : Nat → Nat → Int32) (al : Nat → Nat → Int64) (p0 : Int32) (K : Int32 → Prop) (hw : Mo_actOf_w fi fl ai al p0 K) : Met l y_Mo_actOf ws_Mo_actOf ({ frames := 0, cells := 0, slots := 0, locals := 0 }) (va_Pc [.ref (a 0), .int p0] (zw_B (dC, dI) vwCl [(cI, .int), (cJ, .long), (cG, .array .int), (cZ, .boolean)] (mw cI cJ cG cZ a fi fl ai al))) (vp_Si K) 0 0 (fun _ => False) := by
  refine Met.ofW (cc := b_Mo_actOf) (maxL := 4) (ret := (Option.some FieldType.int)) (by decide) rfl ?_
  intro p e s m args below meth c s₁ B hml hv
  obtain ⟨rfl, hP, hK, hN⟩ := hv
  have hx := B.exec
  have hb := B.bytes
  have hr := B.returns
  have hts := atoms_spec (ws := ws_Mo_actOf) B.pre
  have ht : ∀ w ∈ zw_tbl, w.before _ s = true := fun w h => hts w (List.mem_cons_of_mem _ h)
  have hown : s.vm.findClass R_Mo = some m.cls := findClass_of_methodNamed B.named
  have hlocks := B.notSynchronized
  have hl := lv_entry ([.ref (a 0), .int p0] : List Value) (n := 4) (Nat.le_of_ble_eq_true rfl)
  rw [lg_entry_eq]
  generalize (lg_sl ([.ref (a 0), .int p0] : List Value) ++ List.replicate (4 - (lg_sl ([.ref (a 0), .int p0] : List Value)).length) Slot.unset).toArray = ls at hl ⊢
  have hl : lv_has ls 4 [(0, .ref (a 0)), (1, .int p0)] := hl
  unfold Mo_actOf_w at hw
  refine lv_iconst (v := (-1 : Int32)) hx hb d_Mo_actOf_0 (by decide) ?_
  refine lv_topi (fun v1 ev1 => ?_)
  have hw := zw_nm_x ev1 hw
  refine lv_istore_n (lv' := [(2, .int v1), (0, .ref (a 0)), (1, .int p0)]) hx hb d_Mo_actOf_1 rfl hl (by decide) rfl (fun ls hl => ?_)
  refine lv_iconst (v := (0 : Int32)) hx hb d_Mo_actOf_2 (by decide) ?_
  refine lv_topi (fun v3 ev3 => ?_)
  have hw := zw_nm_x ev3 hw
  refine lv_istore_n (lv' := [(3, .int v3), (2, .int v1), (0, .ref (a 0)), (1, .int p0)]) hx hb d_Mo_actOf_3 rfl hl (by decide) rfl (fun ls hl => ?_)
  refine (zw_lp2_i (P := fun (x4_2 : Int32) (x4_3 : Int32) => ∀ (ls : Array Slot), lv_has ls 4 [(0, .ref (a 0)), (1, .int p0), (2, .int x4_2), (3, .int x4_3)] → W p l e (headSpec ws_Mo_actOf ({ frames := 0, cells := 0, slots := 0, locals := 0 })).room s m ([.ref (a 0), .int p0] : List Value).toArray below meth c s.heap [] 0 0 (MQ below (vp_Si K) ([.ref (a 0), .int p0] : List Value).toArray s 0 0 (fun _ => False)) (F0 m 4 ls [])) hw (fun L4 x4_2 x4_3 ih4 hw ls hl => ?_)) ls (lv_sub hl [2, 3, 1, 0] rfl)
  refine lv_iload_n hx hb d_Mo_actOf_4 rfl (lv_at hl 3 rfl) ?_
  refine lv_aload_n hx hb d_Mo_actOf_5 rfl (lv_at hl 0 rfl) ?_
  refine va_get (D := (dC, dI)) (ci := 7) (v := .int (fi 3)) (C := R_Mo) (T := T_Mo) (N := 36) hx hb ht in_Mo hown hK hP 0 rfl rfl 16 (by decide) (ht _ kw_629) (fun _ h9 => h9) rfl d_Mo_actOf_6 ?_
  refine lv_icmp_ge (tgt := 43) hx hb d_Mo_actOf_9 (by decide) (fun c9 => ?_) (fun c9 => ?_)
  · have hw := zw_ite_t c9 hw
    refine lv_iload_n hx hb d_Mo_actOf_43 rfl (lv_at hl 2 rfl) ?_
    exact W.iret (v := x4_2) hx hb hr (fun t ht hW => ⟨x4_2, rfl, hw, ht⟩) t_nil d_Mo_actOf_44
  · have hw := zw_ite_f c9 hw
    refine lv_aload_n hx hb d_Mo_actOf_12 rfl (lv_at hl 0 rfl) ?_
    refine va_get (D := (dC, dI)) (ci := 7) (v := .ref (a 10)) (C := R_Mo) (T := T_Mo) (N := 36) hx hb ht in_Mo hown hK hP 0 rfl rfl 12 (by decide) (ht _ kw_625) (fun _ h9 => h9) rfl d_Mo_actOf_13 ?_
    refine lv_iload_n hx hb d_Mo_actOf_16 rfl (lv_at hl 3 rfl) ?_
    obtain ⟨h17, hw⟩ := hw
    refine va_iald (f := ai 10) hx hb hK hP 10 0 rfl rfl h17 d_Mo_actOf_17 ?_
    refine zw_jn1_i (P := fun (y36_0 : Int32) => ∀ (ls : Array Slot), lv_has ls 4 [(0, .ref (a 0)), (1, .int p0), (3, .int x4_3)] → W p l e (headSpec ws_Mo_actOf ({ frames := 0, cells := 0, slots := 0, locals := 0 })).room s m ([.ref (a 0), .int p0] : List Value).toArray below meth c s.heap [] 0 0 (MQ below (vp_Si K) ([.ref (a 0), .int p0] : List Value).toArray s 0 0 (fun _ => False)) (F0 m 36 ls [.int y36_0])) hw (fun y36_0 hw ls hl => ?_) (fun J36 hj36 hw => ?_)
    · refine lv_istore_n (lv' := [(2, .int y36_0), (0, .ref (a 0)), (1, .int p0), (3, .int x4_3)]) hx hb d_Mo_actOf_36 rfl hl (by decide) rfl (fun ls hl => ?_)
      obtain ⟨v37, ev37⟩ : ∃ y : Int32, y = x4_3 + (1 : Int32) := ⟨_, rfl⟩
      refine lv_iinc (v := v37) (lv' := [(3, .int v37), (2, .int y36_0), (0, .ref (a 0)), (1, .int p0)]) hx hb d_Mo_actOf_37 hl (k := 3) rfl (by rw [ev37]; rfl) (by decide) rfl (fun ls hl => ?_)
      have hw := zw_nm_x ev37 hw
      refine lv_goto (tgt := 4) hx hb d_Mo_actOf_40 (by decide) ?_
      exact (ih4 y36_0 v37 hw) ls (lv_sub hl [2, 3, 1, 0] rfl)
    · refine zw_jn0_i (P := ∀ (ls : Array Slot), lv_has ls 4 [(0, .ref (a 0)), (1, .int p0), (2, .int x4_2), (3, .int x4_3)] → W p l e (headSpec ws_Mo_actOf ({ frames := 0, cells := 0, slots := 0, locals := 0 })).room s m ([.ref (a 0), .int p0] : List Value).toArray below meth c s.heap [] 0 0 (MQ below (vp_Si K) ([.ref (a 0), .int p0] : List Value).toArray s 0 0 (fun _ => False)) (F0 m 35 ls [])) hw (fun hw ls hl => ?_) (fun J35 hj35 hw => ?_)
      · refine lv_iload_n hx hb d_Mo_actOf_35 rfl (lv_at hl 2 rfl) ?_
        exact (hj36 x4_2 hw) ls (lv_sub hl [0, 1, 3] rfl)
      · refine lv_if_ne (tgt := 35) hx hb d_Mo_actOf_18 (by decide) (fun c18 => ?_) (fun c18 => ?_)
        · have hw := zw_ite_f c18 hw
          exact (hj35  hw) ls (lv_sub hl [0, 1, 2, 3] rfl)
        · have hw := zw_ite_t c18 hw
          refine lv_aload_n hx hb d_Mo_actOf_21 rfl (lv_at hl 0 rfl) ?_
          refine va_get (D := (dC, dI)) (ci := 7) (v := .ref (a 11)) (C := R_Mo) (T := T_Mo) (N := 36) hx hb ht in_Mo hown hK hP 0 rfl rfl 13 (by decide) (ht _ kw_626) (fun _ h9 => h9) rfl d_Mo_actOf_22 ?_
          refine lv_iload_n hx hb d_Mo_actOf_25 rfl (lv_at hl 3 rfl) ?_
          obtain ⟨h26, hw⟩ := hw
          refine va_iald (f := ai 11) hx hb hK hP 11 0 rfl rfl h26 d_Mo_actOf_26 ?_
          refine lv_iload_n hx hb d_Mo_actOf_27 rfl (lv_at hl 1 rfl) ?_
          refine lv_icmp_ne (tgt := 35) hx hb d_Mo_actOf_28 (by decide) (fun c28 => ?_) (fun c28 => ?_)
          · have hw := zw_ite_f c28 hw
            exact (hj35  hw) ls (lv_sub hl [0, 1, 2, 3] rfl)
          · have hw := zw_ite_t c28 hw
            refine lv_iload_n hx hb d_Mo_actOf_31 rfl (lv_at hl 3 rfl) ?_
            refine lv_goto (tgt := 36) hx hb d_Mo_actOf_32 (by decide) ?_
            exact (hj36 x4_3 hw) ls (lv_sub hl [0, 1, 3] rfl)
def Mo_after_w (fi : Nat → Int32) (fl : Nat → Int64) (ai : Nat → Nat → Int32) (al : Nat → Nat → Int64) (p0 : Int32) (p1 : Int32) (K : Int32 → (Nat → Nat → Int32) → Prop) : Prop :=
  Mo_isPart_w fi fl ai al p0 (fun (r2 : Int32) =>
  if r2 = 0 then (
    K (0 : Int32) ai)
  else (
    Mo_isPart_w fi fl ai al p1 (fun (r10 : Int32) =>
    if r10 = 0 then (
      K (0 : Int32) ai)
    else (
      if p0 = p1 then (
        K (0 : Int32) ai)
      else (
        Mo_comesAfter_w fi fl ai al p0 p1 (fun (r24 : Int32) (ai_24 : Nat → Nat → Int32) =>
        if r24 = 0 then (
          Mo_actOf_w fi fl ai_24 al p0 (fun (r34 : Int32) =>
          Mo_actOf_w fi fl ai_24 al p1 (fun (r40 : Int32) =>
          zw_jn0 (
          vp_in (((6 : Int32) * p0) + p1) 36 ∧ (zw_nm (va_up ai_24 8 (upd (ai_24 8) (((6 : Int32) * p0) + p1).toNatClampNeg (vp_nar .boolean (1 : Int32)))) (fun (ai_73 : Nat → Nat → Int32) =>
          K (1 : Int32) ai_73))) (fun J62 =>
          if r40 < 0 then (
            J62)
          else (
            if r34 < 0 then (
              K (0 : Int32) ai_24)
            else (
              if r34 ≤ r40 then (
                J62)
              else (
                K (0 : Int32) ai_24)))))))
        else (
          K (0 : Int32) ai_24)))))))
theorem d_Mo_after_0 : decode b_Mo_after 0 = .ok (.aload_n 0, 1) := by decide +kernel
theorem d_Mo_after_1 : decode b_Mo_after 1 = .ok (.iload_n 1, 1) := by decide +kernel
theorem d_Mo_after_2 : decode b_Mo_after 2 = .ok (.invokevirtual 110, 3) := by decide +kernel
theorem d_Mo_after_5 : decode b_Mo_after 5 = .ok (.ifCond .eq (25), 3) := by decide +kernel
theorem d_Mo_after_8 : decode b_Mo_after 8 = .ok (.aload_n 0, 1) := by decide +kernel
theorem d_Mo_after_9 : decode b_Mo_after 9 = .ok (.iload_n 2, 1) := by decide +kernel
theorem d_Mo_after_10 : decode b_Mo_after 10 = .ok (.invokevirtual 110, 3) := by decide +kernel
theorem d_Mo_after_13 : decode b_Mo_after 13 = .ok (.ifCond .eq (17), 3) := by decide +kernel
theorem d_Mo_after_16 : decode b_Mo_after 16 = .ok (.iload_n 1, 1) := by decide +kernel
theorem d_Mo_after_17 : decode b_Mo_after 17 = .ok (.iload_n 2, 1) := by decide +kernel
theorem d_Mo_after_18 : decode b_Mo_after 18 = .ok (.if_icmp .eq (12), 3) := by decide +kernel
theorem d_Mo_after_21 : decode b_Mo_after 21 = .ok (.aload_n 0, 1) := by decide +kernel
theorem d_Mo_after_22 : decode b_Mo_after 22 = .ok (.iload_n 1, 1) := by decide +kernel
theorem d_Mo_after_23 : decode b_Mo_after 23 = .ok (.iload_n 2, 1) := by decide +kernel
theorem d_Mo_after_24 : decode b_Mo_after 24 = .ok (.invokevirtual 136, 3) := by decide +kernel
theorem d_Mo_after_27 : decode b_Mo_after 27 = .ok (.ifCond .eq (5), 3) := by decide +kernel
theorem d_Mo_after_30 : decode b_Mo_after 30 = .ok (.iconst 0, 1) := by decide +kernel
theorem d_Mo_after_31 : decode b_Mo_after 31 = .ok (.ireturn, 1) := by decide +kernel
theorem d_Mo_after_32 : decode b_Mo_after 32 = .ok (.aload_n 0, 1) := by decide +kernel
theorem d_Mo_after_33 : decode b_Mo_after 33 = .ok (.iload_n 1, 1) := by decide +kernel
theorem d_Mo_after_34 : decode b_Mo_after 34 = .ok (.invokevirtual 140, 3) := by decide +kernel
theorem d_Mo_after_37 : decode b_Mo_after 37 = .ok (.istore_n 3, 1) := by decide +kernel
theorem d_Mo_after_38 : decode b_Mo_after 38 = .ok (.aload_n 0, 1) := by decide +kernel
theorem d_Mo_after_39 : decode b_Mo_after 39 = .ok (.iload_n 2, 1) := by decide +kernel
theorem d_Mo_after_40 : decode b_Mo_after 40 = .ok (.invokevirtual 140, 3) := by decide +kernel
theorem d_Mo_after_43 : decode b_Mo_after 43 = .ok (.istore 4, 2) := by decide +kernel
theorem d_Mo_after_45 : decode b_Mo_after 45 = .ok (.iload 4, 2) := by decide +kernel
theorem d_Mo_after_47 : decode b_Mo_after 47 = .ok (.ifCond .lt (15), 3) := by decide +kernel
theorem d_Mo_after_50 : decode b_Mo_after 50 = .ok (.iload_n 3, 1) := by decide +kernel
theorem d_Mo_after_51 : decode b_Mo_after 51 = .ok (.ifCond .lt (9), 3) := by decide +kernel
theorem d_Mo_after_54 : decode b_Mo_after 54 = .ok (.iload_n 3, 1) := by decide +kernel
theorem d_Mo_after_55 : decode b_Mo_after 55 = .ok (.iload 4, 2) := by decide +kernel
theorem d_Mo_after_57 : decode b_Mo_after 57 = .ok (.if_icmp .le (5), 3) := by decide +kernel
theorem d_Mo_after_60 : decode b_Mo_after 60 = .ok (.iconst 0, 1) := by decide +kernel
theorem d_Mo_after_61 : decode b_Mo_after 61 = .ok (.ireturn, 1) := by decide +kernel
theorem d_Mo_after_62 : decode b_Mo_after 62 = .ok (.aload_n 0, 1) := by decide +kernel
theorem d_Mo_after_63 : decode b_Mo_after 63 = .ok (.getfield 31, 3) := by decide +kernel
theorem d_Mo_after_66 : decode b_Mo_after 66 = .ok (.bipush (6), 2) := by decide +kernel
theorem d_Mo_after_68 : decode b_Mo_after 68 = .ok (.iload_n 1, 1) := by decide +kernel
theorem d_Mo_after_69 : decode b_Mo_after 69 = .ok (.imul, 1) := by decide +kernel
theorem d_Mo_after_70 : decode b_Mo_after 70 = .ok (.iload_n 2, 1) := by decide +kernel
theorem d_Mo_after_71 : decode b_Mo_after 71 = .ok (.iadd, 1) := by decide +kernel
theorem d_Mo_after_72 : decode b_Mo_after 72 = .ok (.iconst 1, 1) := by decide +kernel
theorem d_Mo_after_73 : decode b_Mo_after 73 = .ok (.bastore, 1) := by decide +kernel
theorem d_Mo_after_74 : decode b_Mo_after 74 = .ok (.iconst 1, 1) := by decide +kernel
theorem d_Mo_after_75 : decode b_Mo_after 75 = .ok (.ireturn, 1) := by decide +kernel
set_option maxHeartbeats 4000000 in
set_option maxRecDepth 100000 in
theorem c_Mo_after (l : Launch) (dC : Nat → ClassId) (dI : Nat → Nat → Nat) (cI cJ cG cZ : ClassId) (a : Nat → Nat) (sz : Nat) (fi : Nat → Int32) (fl : Nat → Int64) (ai : Nat → Nat → Int32) (al : Nat → Nat → Int64) (p0 : Int32) (p1 : Int32) (K : Int32 → (Nat → Nat → Int32) → Prop) (hw : Mo_after_w fi fl ai al p0 p1 K) : Met l y_Mo_after ws_Mo_after ({ frames := 2, cells := 0, slots := 0, locals := 46 }) (va_Pc [.ref (a 0), .int p0, .int p1] (zw_Bw (dC, dI) vwCl [(cI, .int), (cJ, .long), (cG, .array .int), (cZ, .boolean)] (mw cI cJ cG cZ a fi fl ai al) sz)) (va_Qi (fun r (u : zw_Z) => (zw_k_air fi fl al K) r u.1 u.2.1 u.2.2.1 u.2.2.2) (fun u t => zw_E (dC, dI) vwCl [(cI, .int), (cJ, .long), (cG, .array .int), (cZ, .boolean)] (va_A (mw cI cJ cG cZ a fi fl ai al) sz) (mw cI cJ cG cZ a u.1 u.2.1 u.2.2.1 u.2.2.2) t) (va_A (mw cI cJ cG cZ a fi fl ai al) sz)) 0 0 (va_A (mw cI cJ cG cZ a fi fl ai al) sz) := by
  refine Met.ofW (cc := b_Mo_after) (maxL := 5) (ret := (Option.some FieldType.boolean)) (by decide) rfl ?_
  intro p e s m args below meth c s₁ B hml hv
  obtain ⟨rfl, hsz, hP, hK, hD0, hN⟩ := hv
  have hx := B.exec
  have hb := B.bytes
  have hr := B.returns
  have hts := atoms_spec (ws := ws_Mo_after) B.pre
  have ht : ∀ w ∈ zw_tbl, w.before _ s = true := fun w h => hts w (List.mem_cons_of_mem _ h)
  have hown : s.vm.findClass R_Mo = some m.cls := findClass_of_methodNamed B.named
  have hlocks := B.notSynchronized
  subst hsz
  have hD := hD0.self (sz := s.heap.size)
  generalize hAe : va_A (mw cI cJ cG cZ a fi fl ai al) s.heap.size = A at hD ⊢
  have hA : ∀ q : Nat, s.heap.size ≤ q → A q := fun q h => by rw [← hAe]; exact Or.inr h
  have hS : va_S A s.heap s.heap [] := va_S.rf
  have hl := lv_entry ([.ref (a 0), .int p0, .int p1] : List Value) (n := 5) (Nat.le_of_ble_eq_true rfl)
  rw [lg_entry_eq]
  generalize (lg_sl ([.ref (a 0), .int p0, .int p1] : List Value) ++ List.replicate (5 - (lg_sl ([.ref (a 0), .int p0, .int p1] : List Value)).length) Slot.unset).toArray = ls at hl ⊢
  have hl : lv_has ls 5 [(0, .ref (a 0)), (1, .int p0), (2, .int p1)] := hl
  unfold Mo_after_w at hw
  obtain ⟨H, hH⟩ : ∃ H, H = s.heap := ⟨_, rfl⟩
  obtain ⟨locs, hlo⟩ : ∃ q : List Loc, q = [] := ⟨_, rfl⟩
  have hP : va_P (dC, dI) vwCl (mw cI cJ cG cZ a fi fl ai al) H := by rw [hH]; exact hP
  have hS : va_S A s.heap H locs := by rw [hH, hlo]; exact hS
  have key : W p l e (headSpec ws_Mo_after ({ frames := 2, cells := 0, slots := 0, locals := 46 })).room s m ([.ref (a 0), .int p0, .int p1] : List Value).toArray below meth c H locs 0 0 (MQ below (va_Qi (fun r (u : zw_Z) => (zw_k_air fi fl al K) r u.1 u.2.1 u.2.2.1 u.2.2.2) (fun u t => zw_E (dC, dI) vwCl [(cI, .int), (cJ, .long), (cG, .array .int), (cZ, .boolean)] A (mw cI cJ cG cZ a u.1 u.2.1 u.2.2.1 u.2.2.2) t) A) ([.ref (a 0), .int p0, .int p1] : List Value).toArray s 0 0 A) (F0 m 0 ls []) := by
    refine lv_aload_n hx hb d_Mo_after_0 rfl (lv_at hl 0 rfl) ?_
    refine lv_iload_n hx hb d_Mo_after_1 rfl (lv_at hl 1 rfl) ?_
    refine vp_callSi (va_Run.run (va_runV (As := [.int p0]) (rest := []) ⟨hx, hb, hml, hown, hts⟩ (c_Mo_isPart l dC dI cI cJ cG cZ a fi fl ai al p0 _ hw) (cwV 1 hts (zw_goodV kw_727 kw_729 kw_s16 kw_9 kw_730) rfl rfl rfl hd_Mo_isPart ⟨Nat.le_of_ble_eq_true rfl, Nat.le_of_ble_eq_true rfl⟩) (zw_preV (ci := 7) (q0 := 0) hK hN hP rfl rfl) rfl rfl hl.1 rfl (lv_room (Nat.le_of_ble_eq_true rfl)) d_Mo_after_2 ⟨Nat.le_of_ble_eq_true rfl, Nat.le_of_ble_eq_true rfl⟩)) (fun r2 hw => ?_)
    refine lv_if_eq (tgt := 30) hx hb d_Mo_after_5 (by decide) (fun c5 => ?_) (fun c5 => ?_)
    · have hw := zw_ite_t c5 hw
      refine lv_iconst (v := (0 : Int32)) hx hb d_Mo_after_30 (by decide) ?_
      exact W.zret (v := (0 : Int32)) (ty := .boolean) hx hb hr rfl (fun t ht hW => ⟨⟨(0 : Int32), (fi, fl, ai, al), rfl, ⟨rfl, rfl, rfl, hw⟩, by rw [ht]; exact hP, va_K.moved hW.alike hK, hD⟩, hS.F ht⟩) hS.2.2 d_Mo_after_31
    · have hw := zw_ite_f c5 hw
      refine lv_aload_n hx hb d_Mo_after_8 rfl (lv_at hl 0 rfl) ?_
      refine lv_iload_n hx hb d_Mo_after_9 rfl (lv_at hl 2 rfl) ?_
      refine vp_callSi (va_Run.run (va_runV (As := [.int p1]) (rest := []) ⟨hx, hb, hml, hown, hts⟩ (c_Mo_isPart l dC dI cI cJ cG cZ a fi fl ai al p1 _ hw) (cwV 1 hts (zw_goodV kw_727 kw_729 kw_s16 kw_9 kw_730) rfl rfl rfl hd_Mo_isPart ⟨Nat.le_of_ble_eq_true rfl, Nat.le_of_ble_eq_true rfl⟩) (zw_preV (ci := 7) (q0 := 0) hK hN hP rfl rfl) rfl rfl hl.1 rfl (lv_room (Nat.le_of_ble_eq_true rfl)) d_Mo_after_10 ⟨Nat.le_of_ble_eq_true rfl, Nat.le_of_ble_eq_true rfl⟩)) (fun r10 hw => ?_)
      refine lv_if_eq (tgt := 30) hx hb d_Mo_after_13 (by decide) (fun c13 => ?_) (fun c13 => ?_)
      · have hw := zw_ite_t c13 hw
        refine lv_iconst (v := (0 : Int32)) hx hb d_Mo_after_30 (by decide) ?_
        exact W.zret (v := (0 : Int32)) (ty := .boolean) hx hb hr rfl (fun t ht hW => ⟨⟨(0 : Int32), (fi, fl, ai, al), rfl, ⟨rfl, rfl, rfl, hw⟩, by rw [ht]; exact hP, va_K.moved hW.alike hK, hD⟩, hS.F ht⟩) hS.2.2 d_Mo_after_31
      · have hw := zw_ite_f c13 hw
        refine lv_iload_n hx hb d_Mo_after_16 rfl (lv_at hl 1 rfl) ?_
        refine lv_iload_n hx hb d_Mo_after_17 rfl (lv_at hl 2 rfl) ?_
        refine lv_icmp_eq (tgt := 30) hx hb d_Mo_after_18 (by decide) (fun c18 => ?_) (fun c18 => ?_)
        · have hw := zw_ite_t c18 hw
          refine lv_iconst (v := (0 : Int32)) hx hb d_Mo_after_30 (by decide) ?_
          exact W.zret (v := (0 : Int32)) (ty := .boolean) hx hb hr rfl (fun t ht hW => ⟨⟨(0 : Int32), (fi, fl, ai, al), rfl, ⟨rfl, rfl, rfl, hw⟩, by rw [ht]; exact hP, va_K.moved hW.alike hK, hD⟩, hS.F ht⟩) hS.2.2 d_Mo_after_31
        · have hw := zw_ite_f c18 hw
          refine lv_aload_n hx hb d_Mo_after_21 rfl (lv_at hl 0 rfl) ?_
          refine lv_iload_n hx hb d_Mo_after_22 rfl (lv_at hl 1 rfl) ?_
          refine lv_iload_n hx hb d_Mo_after_23 rfl (lv_at hl 2 rfl) ?_
          refine zw_ci (va_runV (As := [.int p0, .int p1]) (rest := []) ⟨hx, hb, hml, hown, hts⟩ (c_Mo_comesAfter l dC dI cI cJ cG cZ a H.size fi fl ai al p0 p1 _ hw) (cwV 2 hts (zw_goodV kw_762 kw_764 kw_s17 kw_9 kw_765) rfl rfl rfl hd_Mo_comesAfter ⟨Nat.le_of_ble_eq_true rfl, Nat.le_of_ble_eq_true rfl⟩) (zw_preVw (ci := 7) (q0 := 0) hK hN hP hD rfl rfl) rfl rfl hl.1 rfl (lv_room (Nat.le_of_ble_eq_true rfl)) d_Mo_after_24 ⟨Nat.le_of_ble_eq_true rfl, Nat.le_of_ble_eq_true rfl⟩) hD hS hA (fun r24 fi_24 fl_24 ai_24 al_24 H locs hw hP hD hS => ?_)
          obtain ⟨rfl, rfl, rfl, hw⟩ := hw
          refine lv_if_eq (tgt := 32) hx hb d_Mo_after_27 (by decide) (fun c27 => ?_) (fun c27 => ?_)
          · have hw := zw_ite_t c27 hw
            refine lv_aload_n hx hb d_Mo_after_32 rfl (lv_at hl 0 rfl) ?_
            refine lv_iload_n hx hb d_Mo_after_33 rfl (lv_at hl 1 rfl) ?_
            refine vp_callSi (va_Run.run (va_runV (As := [.int p0]) (rest := []) ⟨hx, hb, hml, hown, hts⟩ (c_Mo_actOf l dC dI cI cJ cG cZ a fi fl ai_24 al p0 _ hw) (cwV 1 hts (zw_goodV kw_766 kw_768 kw_s18 kw_9 kw_769) rfl rfl rfl hd_Mo_actOf ⟨Nat.le_of_ble_eq_true rfl, Nat.le_of_ble_eq_true rfl⟩) (zw_preV (ci := 7) (q0 := 0) hK hN hP rfl rfl) rfl rfl hl.1 rfl (lv_room (Nat.le_of_ble_eq_true rfl)) d_Mo_after_34 ⟨Nat.le_of_ble_eq_true rfl, Nat.le_of_ble_eq_true rfl⟩)) (fun r34 hw => ?_)
            refine lv_istore_n (lv' := [(3, .int r34), (0, .ref (a 0)), (1, .int p0), (2, .int p1)]) hx hb d_Mo_after_37 rfl hl (by decide) rfl (fun ls hl => ?_)
            refine lv_aload_n hx hb d_Mo_after_38 rfl (lv_at hl 1 rfl) ?_
            refine lv_iload_n hx hb d_Mo_after_39 rfl (lv_at hl 3 rfl) ?_
            refine vp_callSi (va_Run.run (va_runV (As := [.int p1]) (rest := []) ⟨hx, hb, hml, hown, hts⟩ (c_Mo_actOf l dC dI cI cJ cG cZ a fi fl ai_24 al p1 _ hw) (cwV 1 hts (zw_goodV kw_766 kw_768 kw_s18 kw_9 kw_769) rfl rfl rfl hd_Mo_actOf ⟨Nat.le_of_ble_eq_true rfl, Nat.le_of_ble_eq_true rfl⟩) (zw_preV (ci := 7) (q0 := 0) hK hN hP rfl rfl) rfl rfl hl.1 rfl (lv_room (Nat.le_of_ble_eq_true rfl)) d_Mo_after_40 ⟨Nat.le_of_ble_eq_true rfl, Nat.le_of_ble_eq_true rfl⟩)) (fun r40 hw => ?_)
            refine lv_istore (lv' := [(4, .int r40), (3, .int r34), (0, .ref (a 0)), (1, .int p0), (2, .int p1)]) hx hb d_Mo_after_43 hl (by decide) rfl (fun ls hl => ?_)
            refine lv_iload hx hb d_Mo_after_45 (lv_at hl 0 rfl) ?_
            refine zw_jn0_i (P := ∀ (H : Heap) (locs : List Loc) (ls : Array Slot), va_P (dC, dI) vwCl (mw cI cJ cG cZ a fi fl ai_24 al) H → va_D A (mw cI cJ cG cZ a fi fl ai_24 al) → va_S A s.heap H locs → lv_has ls 5 [(0, .ref (a 0)), (1, .int p0), (2, .int p1)] → W p l e (headSpec ws_Mo_after ({ frames := 2, cells := 0, slots := 0, locals := 46 })).room s m ([.ref (a 0), .int p0, .int p1] : List Value).toArray below meth c H locs 0 0 (MQ below (va_Qi (fun r (u : zw_Z) => (zw_k_air fi fl al K) r u.1 u.2.1 u.2.2.1 u.2.2.2) (fun u t => zw_E (dC, dI) vwCl [(cI, .int), (cJ, .long), (cG, .array .int), (cZ, .boolean)] A (mw cI cJ cG cZ a u.1 u.2.1 u.2.2.1 u.2.2.2) t) A) ([.ref (a 0), .int p0, .int p1] : List Value).toArray s 0 0 A) (F0 m 62 ls [])) hw (fun hw H locs ls hP hD hS hl => ?_) (fun J62 hj62 hw => ?_)
            · refine lv_aload_n hx hb d_Mo_after_62 rfl (lv_at hl 0 rfl) ?_
              refine va_get (D := (dC, dI)) (ci := 7) (v := .ref (a 8)) (C := R_Mo) (T := T_Mo) (N := 36) hx hb ht in_Mo hown hK hP 0 rfl rfl 9 (by decide) (ht _ kw_622) (fun _ h9 => h9) rfl d_Mo_after_63 ?_
              refine lv_bipush (v := (6 : Int32)) hx hb d_Mo_after_66 (by decide) ?_
              refine lv_iload_n hx hb d_Mo_after_68 rfl (lv_at hl 1 rfl) ?_
              refine lv_imul hx hb d_Mo_after_69 ?_
              refine lv_iload_n hx hb d_Mo_after_70 rfl (lv_at hl 2 rfl) ?_
              refine lv_iadd hx hb d_Mo_after_71 ?_
              refine lv_iconst (v := (1 : Int32)) hx hb d_Mo_after_72 (by decide) ?_
              obtain ⟨h73, hw⟩ := hw
              refine va_zast (f := ai_24 8) hx hb hK hP hD hS 8 3 rfl rfl h73 d_Mo_after_73 (fun H locs hP hD hS => ?_)
              have hP := mwpai_8 hP
              have hD := mwdai_8 hD
              obtain ⟨ai_73, eai_73⟩ : ∃ z, z = va_up ai_24 8 (upd (ai_24 8) (((6 : Int32) * p0) + p1).toNatClampNeg (vp_nar .boolean (1 : Int32))) := ⟨_, rfl⟩
              rw [← eai_73] at hP hD
              have hw := zw_nm_x eai_73 hw
              refine lv_iconst (v := (1 : Int32)) hx hb d_Mo_after_74 (by decide) ?_
              exact W.zret (v := (1 : Int32)) (ty := .boolean) hx hb hr rfl (fun t ht hW => ⟨⟨(1 : Int32), (fi, fl, ai_73, al), rfl, ⟨rfl, rfl, rfl, hw⟩, by rw [ht]; exact hP, va_K.moved hW.alike hK, hD⟩, hS.F ht⟩) hS.2.2 d_Mo_after_75
            · refine lv_if_lt (tgt := 62) hx hb d_Mo_after_47 (by decide) (fun c47 => ?_) (fun c47 => ?_)
              · have hw := zw_ite_t c47 hw
                exact (hj62  hw) H locs ls hP hD hS (lv_sub hl [2, 3, 4] rfl)
              · have hw := zw_ite_f c47 hw
                refine lv_iload_n hx hb d_Mo_after_50 rfl (lv_at hl 1 rfl) ?_
                refine lv_if_lt (tgt := 60) hx hb d_Mo_after_51 (by decide) (fun c51 => ?_) (fun c51 => ?_)
                · have hw := zw_ite_t c51 hw
                  refine lv_iconst (v := (0 : Int32)) hx hb d_Mo_after_60 (by decide) ?_
                  exact W.zret (v := (0 : Int32)) (ty := .boolean) hx hb hr rfl (fun t ht hW => ⟨⟨(0 : Int32), (fi, fl, ai_24, al), rfl, ⟨rfl, rfl, rfl, hw⟩, by rw [ht]; exact hP, va_K.moved hW.alike hK, hD⟩, hS.F ht⟩) hS.2.2 d_Mo_after_61
                · have hw := zw_ite_f c51 hw
                  refine lv_iload_n hx hb d_Mo_after_54 rfl (lv_at hl 1 rfl) ?_
                  refine lv_iload hx hb d_Mo_after_55 (lv_at hl 0 rfl) ?_
                  refine lv_icmp_le (tgt := 62) hx hb d_Mo_after_57 (by decide) (fun c57 => ?_) (fun c57 => ?_)
                  · have hw := zw_ite_t c57 hw
                    exact (hj62  hw) H locs ls hP hD hS (lv_sub hl [2, 3, 4] rfl)
                  · have hw := zw_ite_f c57 hw
                    refine lv_iconst (v := (0 : Int32)) hx hb d_Mo_after_60 (by decide) ?_
                    exact W.zret (v := (0 : Int32)) (ty := .boolean) hx hb hr rfl (fun t ht hW => ⟨⟨(0 : Int32), (fi, fl, ai_24, al), rfl, ⟨rfl, rfl, rfl, hw⟩, by rw [ht]; exact hP, va_K.moved hW.alike hK, hD⟩, hS.F ht⟩) hS.2.2 d_Mo_after_61
          · have hw := zw_ite_f c27 hw
            refine lv_iconst (v := (0 : Int32)) hx hb d_Mo_after_30 (by decide) ?_
            exact W.zret (v := (0 : Int32)) (ty := .boolean) hx hb hr rfl (fun t ht hW => ⟨⟨(0 : Int32), (fi, fl, ai_24, al), rfl, ⟨rfl, rfl, rfl, hw⟩, by rw [ht]; exact hP, va_K.moved hW.alike hK, hD⟩, hS.F ht⟩) hS.2.2 d_Mo_after_31
  rw [hH, hlo] at key
  exact key
def Mo_lastDay_w (fi : Nat → Int32) (fl : Nat → Int64) (ai : Nat → Nat → Int32) (al : Nat → Nat → Int64) (K : Int32 → Prop) : Prop :=
  if (fi 2) = 0 then (
    K (-1 : Int32))
  else (
    vp_in ((fi 2) - (1 : Int32)) 12 ∧ (
    K (ai 9 ((fi 2) - (1 : Int32)).toNatClampNeg)))
theorem d_Mo_lastDay_0 : decode b_Mo_lastDay 0 = .ok (.aload_n 0, 1) := by decide +kernel
theorem d_Mo_lastDay_1 : decode b_Mo_lastDay 1 = .ok (.getfield 107, 3) := by decide +kernel
theorem d_Mo_lastDay_4 : decode b_Mo_lastDay 4 = .ok (.ifCond .ne (7), 3) := by decide +kernel
theorem d_Mo_lastDay_7 : decode b_Mo_lastDay 7 = .ok (.iconst (-1), 1) := by decide +kernel
theorem d_Mo_lastDay_8 : decode b_Mo_lastDay 8 = .ok (.goto (14), 3) := by decide +kernel
theorem d_Mo_lastDay_11 : decode b_Mo_lastDay 11 = .ok (.aload_n 0, 1) := by decide +kernel
theorem d_Mo_lastDay_12 : decode b_Mo_lastDay 12 = .ok (.getfield 35, 3) := by decide +kernel
theorem d_Mo_lastDay_15 : decode b_Mo_lastDay 15 = .ok (.aload_n 0, 1) := by decide +kernel
theorem d_Mo_lastDay_16 : decode b_Mo_lastDay 16 = .ok (.getfield 107, 3) := by decide +kernel
theorem d_Mo_lastDay_19 : decode b_Mo_lastDay 19 = .ok (.iconst 1, 1) := by decide +kernel
theorem d_Mo_lastDay_20 : decode b_Mo_lastDay 20 = .ok (.isub, 1) := by decide +kernel
theorem d_Mo_lastDay_21 : decode b_Mo_lastDay 21 = .ok (.iaload, 1) := by decide +kernel
theorem d_Mo_lastDay_22 : decode b_Mo_lastDay 22 = .ok (.ireturn, 1) := by decide +kernel
set_option maxHeartbeats 4000000 in
set_option maxRecDepth 100000 in
theorem c_Mo_lastDay (l : Launch) (dC : Nat → ClassId) (dI : Nat → Nat → Nat) (cI cJ cG cZ : ClassId) (a : Nat → Nat) (fi : Nat → Int32) (fl : Nat → Int64) (ai : Nat → Nat → Int32) (al : Nat → Nat → Int64) (K : Int32 → Prop) (hw : Mo_lastDay_w fi fl ai al K) : Met l y_Mo_lastDay ws_Mo_lastDay ({ frames := 0, cells := 0, slots := 0, locals := 0 }) (va_Pc [.ref (a 0)] (zw_B (dC, dI) vwCl [(cI, .int), (cJ, .long), (cG, .array .int), (cZ, .boolean)] (mw cI cJ cG cZ a fi fl ai al))) (vp_Si K) 0 0 (fun _ => False) := by
  refine Met.ofW (cc := b_Mo_lastDay) (maxL := 1) (ret := (Option.some FieldType.int)) (by decide) rfl ?_
  intro p e s m args below meth c s₁ B hml hv
  obtain ⟨rfl, hP, hK, hN⟩ := hv
  have hx := B.exec
  have hb := B.bytes
  have hr := B.returns
  have hts := atoms_spec (ws := ws_Mo_lastDay) B.pre
  have ht : ∀ w ∈ zw_tbl, w.before _ s = true := fun w h => hts w (List.mem_cons_of_mem _ h)
  have hown : s.vm.findClass R_Mo = some m.cls := findClass_of_methodNamed B.named
  have hlocks := B.notSynchronized
  have hl := lv_entry ([.ref (a 0)] : List Value) (n := 1) (Nat.le_of_ble_eq_true rfl)
  rw [lg_entry_eq]
  generalize (lg_sl ([.ref (a 0)] : List Value) ++ List.replicate (1 - (lg_sl ([.ref (a 0)] : List Value)).length) Slot.unset).toArray = ls at hl ⊢
  have hl : lv_has ls 1 [(0, .ref (a 0))] := hl
  unfold Mo_lastDay_w at hw
  refine lv_aload_n hx hb d_Mo_lastDay_0 rfl (lv_at hl 0 rfl) ?_
  refine va_get (D := (dC, dI)) (ci := 7) (v := .int (fi 2)) (C := R_Mo) (T := T_Mo) (N := 36) hx hb ht in_Mo hown hK hP 0 rfl rfl 11 (by decide) (ht _ kw_624) (fun _ h9 => h9) rfl d_Mo_lastDay_1 ?_
  refine lv_if_ne (tgt := 11) hx hb d_Mo_lastDay_4 (by decide) (fun c4 => ?_) (fun c4 => ?_)
  · have hw := zw_ite_f c4 hw
    refine lv_aload_n hx hb d_Mo_lastDay_11 rfl (lv_at hl 0 rfl) ?_
    refine va_get (D := (dC, dI)) (ci := 7) (v := .ref (a 9)) (C := R_Mo) (T := T_Mo) (N := 36) hx hb ht in_Mo hown hK hP 0 rfl rfl 10 (by decide) (ht _ kw_623) (fun _ h9 => h9) rfl d_Mo_lastDay_12 ?_
    refine lv_aload_n hx hb d_Mo_lastDay_15 rfl (lv_at hl 0 rfl) ?_
    refine va_get (D := (dC, dI)) (ci := 7) (v := .int (fi 2)) (C := R_Mo) (T := T_Mo) (N := 36) hx hb ht in_Mo hown hK hP 0 rfl rfl 11 (by decide) (ht _ kw_624) (fun _ h9 => h9) rfl d_Mo_lastDay_16 ?_
    refine lv_iconst (v := (1 : Int32)) hx hb d_Mo_lastDay_19 (by decide) ?_
    refine lv_isub hx hb d_Mo_lastDay_20 ?_
    obtain ⟨h21, hw⟩ := hw
    refine va_iald (f := ai 9) hx hb hK hP 9 0 rfl rfl h21 d_Mo_lastDay_21 ?_
    exact W.iret (v := (ai 9 ((fi 2) - (1 : Int32)).toNatClampNeg)) hx hb hr (fun t ht hW => ⟨(ai 9 ((fi 2) - (1 : Int32)).toNatClampNeg), rfl, hw, ht⟩) t_nil d_Mo_lastDay_22
  · have hw := zw_ite_t c4 hw
    refine lv_iconst (v := (-1 : Int32)) hx hb d_Mo_lastDay_7 (by decide) ?_
    refine lv_goto (tgt := 22) hx hb d_Mo_lastDay_8 (by decide) ?_
    exact W.iret (v := (-1 : Int32)) hx hb hr (fun t ht hW => ⟨(-1 : Int32), rfl, hw, ht⟩) t_nil d_Mo_lastDay_22
def Mo_lookAtEnd_w (fi : Nat → Int32) (fl : Nat → Int64) (ai : Nat → Nat → Int32) (al : Nat → Nat → Int64) (K : (Nat → Int32) → Prop) : Prop :=
  zw_jn0 (
  zw_nm (va_up fi 4 (-1 : Int32)) (fun (fi_27 : Nat → Int32) =>
  K fi_27)) (fun J19 =>
  if (fi 2) = 0 then (
    J19)
  else (
    Mo_lastDay_w fi fl ai al  (fun (r9 : Int32) =>
    if r9 ≤ (fi 4) then (
      zw_nm (va_up fi 4 (fi 4)) (fun (fi_27_1 : Nat → Int32) =>
      K fi_27_1))
    else (
      J19))))
theorem d_Mo_lookAtEnd_0 : decode b_Mo_lookAtEnd 0 = .ok (.aload_n 0, 1) := by decide +kernel
theorem d_Mo_lookAtEnd_1 : decode b_Mo_lookAtEnd 1 = .ok (.aload_n 0, 1) := by decide +kernel
theorem d_Mo_lookAtEnd_2 : decode b_Mo_lookAtEnd 2 = .ok (.getfield 107, 3) := by decide +kernel
theorem d_Mo_lookAtEnd_5 : decode b_Mo_lookAtEnd 5 = .ok (.ifCond .eq (14), 3) := by decide +kernel
theorem d_Mo_lookAtEnd_8 : decode b_Mo_lookAtEnd 8 = .ok (.aload_n 0, 1) := by decide +kernel
theorem d_Mo_lookAtEnd_9 : decode b_Mo_lookAtEnd 9 = .ok (.invokevirtual 144, 3) := by decide +kernel
theorem d_Mo_lookAtEnd_12 : decode b_Mo_lookAtEnd 12 = .ok (.aload_n 0, 1) := by decide +kernel
theorem d_Mo_lookAtEnd_13 : decode b_Mo_lookAtEnd 13 = .ok (.getfield 54, 3) := by decide +kernel
theorem d_Mo_lookAtEnd_16 : decode b_Mo_lookAtEnd 16 = .ok (.if_icmp .le (7), 3) := by decide +kernel
theorem d_Mo_lookAtEnd_19 : decode b_Mo_lookAtEnd 19 = .ok (.iconst (-1), 1) := by decide +kernel
theorem d_Mo_lookAtEnd_20 : decode b_Mo_lookAtEnd 20 = .ok (.goto (7), 3) := by decide +kernel
theorem d_Mo_lookAtEnd_23 : decode b_Mo_lookAtEnd 23 = .ok (.aload_n 0, 1) := by decide +kernel
theorem d_Mo_lookAtEnd_24 : decode b_Mo_lookAtEnd 24 = .ok (.getfield 54, 3) := by decide +kernel
theorem d_Mo_lookAtEnd_27 : decode b_Mo_lookAtEnd 27 = .ok (.putfield 54, 3) := by decide +kernel
theorem d_Mo_lookAtEnd_30 : decode b_Mo_lookAtEnd 30 = .ok (.return_, 1) := by decide +kernel
set_option maxHeartbeats 4000000 in
set_option maxRecDepth 100000 in
theorem c_Mo_lookAtEnd (l : Launch) (dC : Nat → ClassId) (dI : Nat → Nat → Nat) (cI cJ cG cZ : ClassId) (a : Nat → Nat) (sz : Nat) (fi : Nat → Int32) (fl : Nat → Int64) (ai : Nat → Nat → Int32) (al : Nat → Nat → Int64) (K : (Nat → Int32) → Prop) (hw : Mo_lookAtEnd_w fi fl ai al K) : Met l y_Mo_lookAtEnd ws_Mo_lookAtEnd ({ frames := 1, cells := 0, slots := 0, locals := 20 }) (va_Pc [.ref (a 0)] (zw_Bw (dC, dI) vwCl [(cI, .int), (cJ, .long), (cG, .array .int), (cZ, .boolean)] (mw cI cJ cG cZ a fi fl ai al) sz)) (va_Qv (fun (u : zw_Z) => (zw_k_fiv fl ai al K) u.1 u.2.1 u.2.2.1 u.2.2.2) (fun u t => zw_E (dC, dI) vwCl [(cI, .int), (cJ, .long), (cG, .array .int), (cZ, .boolean)] (va_A (mw cI cJ cG cZ a fi fl ai al) sz) (mw cI cJ cG cZ a u.1 u.2.1 u.2.2.1 u.2.2.2) t) (va_A (mw cI cJ cG cZ a fi fl ai al) sz)) 0 0 (va_A (mw cI cJ cG cZ a fi fl ai al) sz) := by
  refine Met.ofW (cc := b_Mo_lookAtEnd) (maxL := 1) (ret := (Option.none : Option FieldType)) (by decide) rfl ?_
  intro p e s m args below meth c s₁ B hml hv
  obtain ⟨rfl, hsz, hP, hK, hD0, hN⟩ := hv
  have hx := B.exec
  have hb := B.bytes
  have hr := B.returns
  have hts := atoms_spec (ws := ws_Mo_lookAtEnd) B.pre
  have ht : ∀ w ∈ zw_tbl, w.before _ s = true := fun w h => hts w (List.mem_cons_of_mem _ h)
  have hown : s.vm.findClass R_Mo = some m.cls := findClass_of_methodNamed B.named
  have hlocks := B.notSynchronized
  subst hsz
  have hD := hD0.self (sz := s.heap.size)
  generalize hAe : va_A (mw cI cJ cG cZ a fi fl ai al) s.heap.size = A at hD ⊢
  have hA : ∀ q : Nat, s.heap.size ≤ q → A q := fun q h => by rw [← hAe]; exact Or.inr h
  have hS : va_S A s.heap s.heap [] := va_S.rf
  have hl := lv_entry ([.ref (a 0)] : List Value) (n := 1) (Nat.le_of_ble_eq_true rfl)
  rw [lg_entry_eq]
  generalize (lg_sl ([.ref (a 0)] : List Value) ++ List.replicate (1 - (lg_sl ([.ref (a 0)] : List Value)).length) Slot.unset).toArray = ls at hl ⊢
  have hl : lv_has ls 1 [(0, .ref (a 0))] := hl
  unfold Mo_lookAtEnd_w at hw
  obtain ⟨H, hH⟩ : ∃ H, H = s.heap := ⟨_, rfl⟩
  obtain ⟨locs, hlo⟩ : ∃ q : List Loc, q = [] := ⟨_, rfl⟩
  have hP : va_P (dC, dI) vwCl (mw cI cJ cG cZ a fi fl ai al) H := by rw [hH]; exact hP
  have hS : va_S A s.heap H locs := by rw [hH, hlo]; exact hS
  have key : W p l e (headSpec ws_Mo_lookAtEnd ({ frames := 1, cells := 0, slots := 0, locals := 20 })).room s m ([.ref (a 0)] : List Value).toArray below meth c H locs 0 0 (MQ below (va_Qv (fun (u : zw_Z) => (zw_k_fiv fl ai al K) u.1 u.2.1 u.2.2.1 u.2.2.2) (fun u t => zw_E (dC, dI) vwCl [(cI, .int), (cJ, .long), (cG, .array .int), (cZ, .boolean)] A (mw cI cJ cG cZ a u.1 u.2.1 u.2.2.1 u.2.2.2) t) A) ([.ref (a 0)] : List Value).toArray s 0 0 A) (F0 m 0 ls []) := by
    refine lv_aload_n hx hb d_Mo_lookAtEnd_0 rfl (lv_at hl 0 rfl) ?_
    refine lv_aload_n hx hb d_Mo_lookAtEnd_1 rfl (lv_at hl 0 rfl) ?_
    refine va_get (D := (dC, dI)) (ci := 7) (v := .int (fi 2)) (C := R_Mo) (T := T_Mo) (N := 36) hx hb ht in_Mo hown hK hP 0 rfl rfl 11 (by decide) (ht _ kw_624) (fun _ h9 => h9) rfl d_Mo_lookAtEnd_2 ?_
    refine zw_jn0_i (P := ∀ (H : Heap) (locs : List Loc) (ls : Array Slot), va_P (dC, dI) vwCl (mw cI cJ cG cZ a fi fl ai al) H → va_D A (mw cI cJ cG cZ a fi fl ai al) → va_S A s.heap H locs → lv_has ls 1 [] → W p l e (headSpec ws_Mo_lookAtEnd ({ frames := 1, cells := 0, slots := 0, locals := 20 })).room s m ([.ref (a 0)] : List Value).toArray below meth c H locs 0 0 (MQ below (va_Qv (fun (u : zw_Z) => (zw_k_fiv fl ai al K) u.1 u.2.1 u.2.2.1 u.2.2.2) (fun u t => zw_E (dC, dI) vwCl [(cI, .int), (cJ, .long), (cG, .array .int), (cZ, .boolean)] A (mw cI cJ cG cZ a u.1 u.2.1 u.2.2.1 u.2.2.2) t) A) ([.ref (a 0)] : List Value).toArray s 0 0 A) (F0 m 19 ls [.ref (a 0)])) hw (fun hw H locs ls hP hD hS hl => ?_) (fun J19 hj19 hw => ?_)
    · refine lv_iconst (v := (-1 : Int32)) hx hb d_Mo_lookAtEnd_19 (by decide) ?_
      refine lv_goto (tgt := 27) hx hb d_Mo_lookAtEnd_20 (by decide) ?_
      refine va_put (D := (dC, dI)) (ci := 7) (v := .int (-1 : Int32)) (ty := .int) (C := R_Mo) (T := T_Mo) (N := 36) hx hb ht in_Mo t_Mo t_Mo_ok n_Mo hown hK hP hD hS 0 rfl rfl 18 (by decide) (ht _ kw_631) (fun _ h9 => h9) rfl (by decide +kernel) rfl rfl (Nat.le_of_ble_eq_true rfl) d_Mo_lookAtEnd_27 (fun H locs hP hD hS => ?_)
      have hP := mwpfi_4 hP
      have hD := mwdfi_4 hD
      obtain ⟨fi_27, efi_27⟩ : ∃ z, z = va_up fi 4 (-1 : Int32) := ⟨_, rfl⟩
      rw [← efi_27] at hP hD
      have hw := zw_nm_x efi_27 hw
      exact W.vret hx hb hr (fun t ht hW => ⟨⟨(fi_27, fl, ai, al), rfl, ⟨rfl, rfl, rfl, hw⟩, by rw [ht]; exact hP, va_K.moved hW.alike hK, hD⟩, hS.F ht⟩) hS.2.2 d_Mo_lookAtEnd_30
    · refine lv_if_eq (tgt := 19) hx hb d_Mo_lookAtEnd_5 (by decide) (fun c5 => ?_) (fun c5 => ?_)
      · have hw := zw_ite_t c5 hw
        exact (hj19  hw) H locs ls hP hD hS (lv_sub hl [] rfl)
      · have hw := zw_ite_f c5 hw
        refine lv_aload_n hx hb d_Mo_lookAtEnd_8 rfl (lv_at hl 0 rfl) ?_
        refine vp_callSi (va_Run.run (va_runV (As := []) (rest := [.ref (a 0)]) ⟨hx, hb, hml, hown, hts⟩ (c_Mo_lastDay l dC dI cI cJ cG cZ a fi fl ai al _ hw) (cwV 0 hts (zw_goodV kw_774 kw_776 kw_s19 kw_9 kw_777) rfl rfl rfl hd_Mo_lastDay ⟨Nat.le_of_ble_eq_true rfl, Nat.le_of_ble_eq_true rfl⟩) (zw_preV (ci := 7) (q0 := 0) hK hN hP rfl rfl) rfl rfl hl.1 rfl (lv_room (Nat.le_of_ble_eq_true rfl)) d_Mo_lookAtEnd_9 ⟨Nat.le_of_ble_eq_true rfl, Nat.le_of_ble_eq_true rfl⟩)) (fun r9 hw => ?_)
        refine lv_aload_n hx hb d_Mo_lookAtEnd_12 rfl (lv_at hl 0 rfl) ?_
        refine va_get (D := (dC, dI)) (ci := 7) (v := .int (fi 4)) (C := R_Mo) (T := T_Mo) (N := 36) hx hb ht in_Mo hown hK hP 0 rfl rfl 18 (by decide) (ht _ kw_631) (fun _ h9 => h9) rfl d_Mo_lookAtEnd_13 ?_
        refine lv_icmp_le (tgt := 23) hx hb d_Mo_lookAtEnd_16 (by decide) (fun c16 => ?_) (fun c16 => ?_)
        · have hw := zw_ite_t c16 hw
          refine lv_aload_n hx hb d_Mo_lookAtEnd_23 rfl (lv_at hl 0 rfl) ?_
          refine va_get (D := (dC, dI)) (ci := 7) (v := .int (fi 4)) (C := R_Mo) (T := T_Mo) (N := 36) hx hb ht in_Mo hown hK hP 0 rfl rfl 18 (by decide) (ht _ kw_631) (fun _ h9 => h9) rfl d_Mo_lookAtEnd_24 ?_
          refine va_put (D := (dC, dI)) (ci := 7) (v := .int (fi 4)) (ty := .int) (C := R_Mo) (T := T_Mo) (N := 36) hx hb ht in_Mo t_Mo t_Mo_ok n_Mo hown hK hP hD hS 0 rfl rfl 18 (by decide) (ht _ kw_631) (fun _ h9 => h9) rfl (by decide +kernel) rfl rfl (Nat.le_of_ble_eq_true rfl) d_Mo_lookAtEnd_27 (fun H locs hP hD hS => ?_)
          have hP := mwpfi_4 hP
          have hD := mwdfi_4 hD
          obtain ⟨fi_27_1, efi_27_1⟩ : ∃ z, z = va_up fi 4 (fi 4) := ⟨_, rfl⟩
          rw [← efi_27_1] at hP hD
          have hw := zw_nm_x efi_27_1 hw
          exact W.vret hx hb hr (fun t ht hW => ⟨⟨(fi_27_1, fl, ai, al), rfl, ⟨rfl, rfl, rfl, hw⟩, by rw [ht]; exact hP, va_K.moved hW.alike hK, hD⟩, hS.F ht⟩) hS.2.2 d_Mo_lookAtEnd_30
        · have hw := zw_ite_f c16 hw
          exact (hj19  hw) H locs ls hP hD hS (lv_sub hl [] rfl)
  rw [hH, hlo] at key
  exact key
def Mo_endDay_w (fi : Nat → Int32) (fl : Nat → Int64) (ai : Nat → Nat → Int32) (al : Nat → Nat → Int64) (K : Int32 → Prop) : Prop :=
  if 0 ≤ (fi 4) then (
    K (fi 4))
  else (
    Mo_lastDay_w fi fl ai al  (fun (r8 : Int32) =>
    K r8))
theorem d_Mo_endDay_0 : decode b_Mo_endDay 0 = .ok (.aload_n 0, 1) := by decide +kernel
theorem d_Mo_endDay_1 : decode b_Mo_endDay 1 = .ok (.getfield 54, 3) := by decide +kernel
theorem d_Mo_endDay_4 : decode b_Mo_endDay 4 = .ok (.ifCond .ge (10), 3) := by decide +kernel
theorem d_Mo_endDay_7 : decode b_Mo_endDay 7 = .ok (.aload_n 0, 1) := by decide +kernel
theorem d_Mo_endDay_8 : decode b_Mo_endDay 8 = .ok (.invokevirtual 144, 3) := by decide +kernel
theorem d_Mo_endDay_11 : decode b_Mo_endDay 11 = .ok (.goto (7), 3) := by decide +kernel
theorem d_Mo_endDay_14 : decode b_Mo_endDay 14 = .ok (.aload_n 0, 1) := by decide +kernel
theorem d_Mo_endDay_15 : decode b_Mo_endDay 15 = .ok (.getfield 54, 3) := by decide +kernel
theorem d_Mo_endDay_18 : decode b_Mo_endDay 18 = .ok (.ireturn, 1) := by decide +kernel
set_option maxHeartbeats 4000000 in
set_option maxRecDepth 100000 in
theorem c_Mo_endDay (l : Launch) (dC : Nat → ClassId) (dI : Nat → Nat → Nat) (cI cJ cG cZ : ClassId) (a : Nat → Nat) (fi : Nat → Int32) (fl : Nat → Int64) (ai : Nat → Nat → Int32) (al : Nat → Nat → Int64) (K : Int32 → Prop) (hw : Mo_endDay_w fi fl ai al K) : Met l y_Mo_endDay ws_Mo_endDay ({ frames := 1, cells := 0, slots := 0, locals := 20 }) (va_Pc [.ref (a 0)] (zw_B (dC, dI) vwCl [(cI, .int), (cJ, .long), (cG, .array .int), (cZ, .boolean)] (mw cI cJ cG cZ a fi fl ai al))) (vp_Si K) 0 0 (fun _ => False) := by
  refine Met.ofW (cc := b_Mo_endDay) (maxL := 1) (ret := (Option.some FieldType.int)) (by decide) rfl ?_
  intro p e s m args below meth c s₁ B hml hv
  obtain ⟨rfl, hP, hK, hN⟩ := hv
  have hx := B.exec
  have hb := B.bytes
  have hr := B.returns
  have hts := atoms_spec (ws := ws_Mo_endDay) B.pre
  have ht : ∀ w ∈ zw_tbl, w.before _ s = true := fun w h => hts w (List.mem_cons_of_mem _ h)
  have hown : s.vm.findClass R_Mo = some m.cls := findClass_of_methodNamed B.named
  have hlocks := B.notSynchronized
  have hl := lv_entry ([.ref (a 0)] : List Value) (n := 1) (Nat.le_of_ble_eq_true rfl)
  rw [lg_entry_eq]
  generalize (lg_sl ([.ref (a 0)] : List Value) ++ List.replicate (1 - (lg_sl ([.ref (a 0)] : List Value)).length) Slot.unset).toArray = ls at hl ⊢
  have hl : lv_has ls 1 [(0, .ref (a 0))] := hl
  unfold Mo_endDay_w at hw
  refine lv_aload_n hx hb d_Mo_endDay_0 rfl (lv_at hl 0 rfl) ?_
  refine va_get (D := (dC, dI)) (ci := 7) (v := .int (fi 4)) (C := R_Mo) (T := T_Mo) (N := 36) hx hb ht in_Mo hown hK hP 0 rfl rfl 18 (by decide) (ht _ kw_631) (fun _ h9 => h9) rfl d_Mo_endDay_1 ?_
  refine lv_if_ge (tgt := 14) hx hb d_Mo_endDay_4 (by decide) (fun c4 => ?_) (fun c4 => ?_)
  · have hw := zw_ite_t c4 hw
    refine lv_aload_n hx hb d_Mo_endDay_14 rfl (lv_at hl 0 rfl) ?_
    refine va_get (D := (dC, dI)) (ci := 7) (v := .int (fi 4)) (C := R_Mo) (T := T_Mo) (N := 36) hx hb ht in_Mo hown hK hP 0 rfl rfl 18 (by decide) (ht _ kw_631) (fun _ h9 => h9) rfl d_Mo_endDay_15 ?_
    exact W.iret (v := (fi 4)) hx hb hr (fun t ht hW => ⟨(fi 4), rfl, hw, ht⟩) t_nil d_Mo_endDay_18
  · have hw := zw_ite_f c4 hw
    refine lv_aload_n hx hb d_Mo_endDay_7 rfl (lv_at hl 0 rfl) ?_
    refine vp_callSi (va_Run.run (va_runV (As := []) (rest := []) ⟨hx, hb, hml, hown, hts⟩ (c_Mo_lastDay l dC dI cI cJ cG cZ a fi fl ai al _ hw) (cwV 0 hts (zw_goodV kw_774 kw_776 kw_s19 kw_9 kw_777) rfl rfl rfl hd_Mo_lastDay ⟨Nat.le_of_ble_eq_true rfl, Nat.le_of_ble_eq_true rfl⟩) (zw_preV (ci := 7) (q0 := 0) hK hN hP rfl rfl) rfl rfl hl.1 rfl (lv_room (Nat.le_of_ble_eq_true rfl)) d_Mo_endDay_8 ⟨Nat.le_of_ble_eq_true rfl, Nat.le_of_ble_eq_true rfl⟩)) (fun r8 hw => ?_)
    refine lv_goto (tgt := 18) hx hb d_Mo_endDay_11 (by decide) ?_
    exact W.iret (v := r8) hx hb hr (fun t ht hW => ⟨r8, rfl, hw, ht⟩) t_nil d_Mo_endDay_18
