def Mo_carriedAt_w (fi : Nat → Int32) (fl : Nat → Int64) (ai : Nat → Nat → Int32) (al : Nat → Nat → Int64) (p0 : Int32) (p1 : Int32) (K : Int64 → Prop) : Prop :=
  zw_nm (0 : Int64) (fun (v1 : Int64) =>
  zw_nm (0 : Int32) (fun (v3 : Int32) =>
  zw_lp2 (fun L5 (x5_3 : Int64) (x5_5 : Int32) =>
  if (fi 3) ≤ x5_5 then (
    K x5_3)
  else (
    vp_in x5_5 40 ∧ (
    zw_jn1 (fun (y40_0 : Int64) =>
    zw_nm (x5_5 + (1 : Int32)) (fun (v41 : Int32) =>
    L5 y40_0 v41)) (fun J40 =>
    if p1 < (ai 13 x5_5.toNatClampNeg) then (
      J40 x5_3)
    else (
      vp_in (((3 : Int32) * x5_5) + p0) 120 ∧ (
      J40 (al 23 (((3 : Int32) * x5_5) + p0).toNatClampNeg))))))) v1 v3))
theorem d_Mo_carriedAt_0 : decode b_Mo_carriedAt 0 = .ok (.lconst 0, 1) := by decide +kernel
theorem d_Mo_carriedAt_1 : decode b_Mo_carriedAt 1 = .ok (.lstore_n 3, 1) := by decide +kernel
theorem d_Mo_carriedAt_2 : decode b_Mo_carriedAt 2 = .ok (.iconst 0, 1) := by decide +kernel
theorem d_Mo_carriedAt_3 : decode b_Mo_carriedAt 3 = .ok (.istore 5, 2) := by decide +kernel
theorem d_Mo_carriedAt_5 : decode b_Mo_carriedAt 5 = .ok (.iload 5, 2) := by decide +kernel
theorem d_Mo_carriedAt_7 : decode b_Mo_carriedAt 7 = .ok (.aload_n 0, 1) := by decide +kernel
theorem d_Mo_carriedAt_8 : decode b_Mo_carriedAt 8 = .ok (.getfield 133, 3) := by decide +kernel
theorem d_Mo_carriedAt_11 : decode b_Mo_carriedAt 11 = .ok (.if_icmp .ge (36), 3) := by decide +kernel
theorem d_Mo_carriedAt_14 : decode b_Mo_carriedAt 14 = .ok (.aload_n 0, 1) := by decide +kernel
theorem d_Mo_carriedAt_15 : decode b_Mo_carriedAt 15 = .ok (.getfield 47, 3) := by decide +kernel
theorem d_Mo_carriedAt_18 : decode b_Mo_carriedAt 18 = .ok (.iload 5, 2) := by decide +kernel
theorem d_Mo_carriedAt_20 : decode b_Mo_carriedAt 20 = .ok (.iaload, 1) := by decide +kernel
theorem d_Mo_carriedAt_21 : decode b_Mo_carriedAt 21 = .ok (.iload_n 2, 1) := by decide +kernel
theorem d_Mo_carriedAt_22 : decode b_Mo_carriedAt 22 = .ok (.if_icmp .gt (17), 3) := by decide +kernel
theorem d_Mo_carriedAt_25 : decode b_Mo_carriedAt 25 = .ok (.aload_n 0, 1) := by decide +kernel
theorem d_Mo_carriedAt_26 : decode b_Mo_carriedAt 26 = .ok (.getfield 85, 3) := by decide +kernel
theorem d_Mo_carriedAt_29 : decode b_Mo_carriedAt 29 = .ok (.iconst 3, 1) := by decide +kernel
theorem d_Mo_carriedAt_30 : decode b_Mo_carriedAt 30 = .ok (.iload 5, 2) := by decide +kernel
theorem d_Mo_carriedAt_32 : decode b_Mo_carriedAt 32 = .ok (.imul, 1) := by decide +kernel
theorem d_Mo_carriedAt_33 : decode b_Mo_carriedAt 33 = .ok (.iload_n 1, 1) := by decide +kernel
theorem d_Mo_carriedAt_34 : decode b_Mo_carriedAt 34 = .ok (.iadd, 1) := by decide +kernel
theorem d_Mo_carriedAt_35 : decode b_Mo_carriedAt 35 = .ok (.laload, 1) := by decide +kernel
theorem d_Mo_carriedAt_36 : decode b_Mo_carriedAt 36 = .ok (.goto (4), 3) := by decide +kernel
theorem d_Mo_carriedAt_39 : decode b_Mo_carriedAt 39 = .ok (.lload_n 3, 1) := by decide +kernel
theorem d_Mo_carriedAt_40 : decode b_Mo_carriedAt 40 = .ok (.lstore_n 3, 1) := by decide +kernel
theorem d_Mo_carriedAt_41 : decode b_Mo_carriedAt 41 = .ok (.iinc 5 (1), 3) := by decide +kernel
theorem d_Mo_carriedAt_44 : decode b_Mo_carriedAt 44 = .ok (.goto (-39), 3) := by decide +kernel
theorem d_Mo_carriedAt_47 : decode b_Mo_carriedAt 47 = .ok (.lload_n 3, 1) := by decide +kernel
theorem d_Mo_carriedAt_48 : decode b_Mo_carriedAt 48 = .ok (.lreturn, 1) := by decide +kernel
set_option maxHeartbeats 4000000 in
set_option maxRecDepth 100000 in
theorem c_Mo_carriedAt (l : Launch) (dC : Nat → ClassId) (dI : Nat → Nat → Nat) (cI cJ cG cZ : ClassId) (a : Nat → Nat) (fi : Nat → Int32) (fl : Nat → Int64) (ai : Nat → Nat → Int32) (al : Nat → Nat → Int64) (p0 : Int32) (p1 : Int32) (K : Int64 → Prop) (hw : Mo_carriedAt_w fi fl ai al p0 p1 K) : Met l y_Mo_carriedAt ws_Mo_carriedAt ({ frames := 0, cells := 0, slots := 0, locals := 0 }) (va_Pc [.ref (a 0), .int p0, .int p1] (zw_B (dC, dI) vwCl [(cI, .int), (cJ, .long), (cG, .array .int), (cZ, .boolean)] (mw cI cJ cG cZ a fi fl ai al))) (vp_Sl K) 0 0 (fun _ => False) := by
  refine Met.ofW (cc := b_Mo_carriedAt) (maxL := 6) (ret := (Option.some FieldType.long)) (by decide) rfl ?_
  intro p e s m args below meth c s₁ B hml hv
  obtain ⟨rfl, hP, hK, hN⟩ := hv
  have hx := B.exec
  have hb := B.bytes
  have hr := B.returns
  have hts := atoms_spec (ws := ws_Mo_carriedAt) B.pre
  have ht : ∀ w ∈ zw_tbl, w.before _ s = true := fun w h => hts w (List.mem_cons_of_mem _ h)
  have hown : s.vm.findClass R_Mo = some m.cls := findClass_of_methodNamed B.named
  have hlocks := B.notSynchronized
  have hl := lv_entry ([.ref (a 0), .int p0, .int p1] : List Value) (n := 6) (Nat.le_of_ble_eq_true rfl)
  rw [lg_entry_eq]
  generalize (lg_sl ([.ref (a 0), .int p0, .int p1] : List Value) ++ List.replicate (6 - (lg_sl ([.ref (a 0), .int p0, .int p1] : List Value)).length) Slot.unset).toArray = ls at hl ⊢
  have hl : lv_has ls 6 [(0, .ref (a 0)), (1, .int p0), (2, .int p1)] := hl
  unfold Mo_carriedAt_w at hw
  refine lv_lconst (v := (0 : Int64)) hx hb d_Mo_carriedAt_0 (by decide) ?_
  refine lv_topl (fun v1 ev1 => ?_)
  have hw := zw_nm_x ev1 hw
  refine lv_lstore_n (lv' := [(3, .long v1), (0, .ref (a 0)), (1, .int p0), (2, .int p1)]) hx hb d_Mo_carriedAt_1 rfl hl (by decide) rfl (fun ls hl => ?_)
  refine lv_iconst (v := (0 : Int32)) hx hb d_Mo_carriedAt_2 (by decide) ?_
  refine lv_topi (fun v3 ev3 => ?_)
  have hw := zw_nm_x ev3 hw
  refine lv_istore (lv' := [(5, .int v3), (3, .long v1), (0, .ref (a 0)), (1, .int p0), (2, .int p1)]) hx hb d_Mo_carriedAt_3 hl (by decide) rfl (fun ls hl => ?_)
  refine (zw_lp2_i (P := fun (x5_3 : Int64) (x5_5 : Int32) => ∀ (ls : Array Slot), lv_has ls 6 [(0, .ref (a 0)), (1, .int p0), (2, .int p1), (3, .long x5_3), (5, .int x5_5)] → W p l e (headSpec ws_Mo_carriedAt ({ frames := 0, cells := 0, slots := 0, locals := 0 })).room s m ([.ref (a 0), .int p0, .int p1] : List Value).toArray below meth c s.heap [] 0 0 (MQ below (vp_Sl K) ([.ref (a 0), .int p0, .int p1] : List Value).toArray s 0 0 (fun _ => False)) (F0 m 5 ls [])) hw (fun L5 x5_3 x5_5 ih5 hw ls hl => ?_)) ls (lv_sub hl [2, 3, 4, 1, 0] rfl)
  refine lv_iload hx hb d_Mo_carriedAt_5 (lv_at hl 4 rfl) ?_
  refine lv_aload_n hx hb d_Mo_carriedAt_7 rfl (lv_at hl 0 rfl) ?_
  refine va_get (D := (dC, dI)) (ci := 7) (v := .int (fi 3)) (C := R_Mo) (T := T_Mo) (N := 36) hx hb ht in_Mo hown hK hP 0 rfl rfl 16 (by decide) (ht _ kw_629) (fun _ h9 => h9) rfl d_Mo_carriedAt_8 ?_
  refine lv_icmp_ge (tgt := 47) hx hb d_Mo_carriedAt_11 (by decide) (fun c11 => ?_) (fun c11 => ?_)
  · have hw := zw_ite_t c11 hw
    refine lv_lload_n hx hb d_Mo_carriedAt_47 rfl (lv_at hl 3 rfl) ?_
    exact W.lret (v := x5_3) hx hb hr (fun t ht hW => ⟨x5_3, rfl, hw, ht⟩) t_nil d_Mo_carriedAt_48
  · have hw := zw_ite_f c11 hw
    refine lv_aload_n hx hb d_Mo_carriedAt_14 rfl (lv_at hl 0 rfl) ?_
    refine va_get (D := (dC, dI)) (ci := 7) (v := .ref (a 13)) (C := R_Mo) (T := T_Mo) (N := 36) hx hb ht in_Mo hown hK hP 0 rfl rfl 15 (by decide) (ht _ kw_628) (fun _ h9 => h9) rfl d_Mo_carriedAt_15 ?_
    refine lv_iload hx hb d_Mo_carriedAt_18 (lv_at hl 4 rfl) ?_
    obtain ⟨h20, hw⟩ := hw
    refine va_iald (f := ai 13) hx hb hK hP 13 0 rfl rfl h20 d_Mo_carriedAt_20 ?_
    refine lv_iload_n hx hb d_Mo_carriedAt_21 rfl (lv_at hl 2 rfl) ?_
    refine zw_jn1_i (P := fun (y40_0 : Int64) => ∀ (ls : Array Slot), lv_has ls 6 [(0, .ref (a 0)), (1, .int p0), (2, .int p1), (5, .int x5_5)] → W p l e (headSpec ws_Mo_carriedAt ({ frames := 0, cells := 0, slots := 0, locals := 0 })).room s m ([.ref (a 0), .int p0, .int p1] : List Value).toArray below meth c s.heap [] 0 0 (MQ below (vp_Sl K) ([.ref (a 0), .int p0, .int p1] : List Value).toArray s 0 0 (fun _ => False)) (F0 m 40 ls [.long y40_0])) hw (fun y40_0 hw ls hl => ?_) (fun J40 hj40 hw => ?_)
    · refine lv_lstore_n (lv' := [(3, .long y40_0), (0, .ref (a 0)), (1, .int p0), (2, .int p1), (5, .int x5_5)]) hx hb d_Mo_carriedAt_40 rfl hl (by decide) rfl (fun ls hl => ?_)
      obtain ⟨v41, ev41⟩ : ∃ y : Int32, y = x5_5 + (1 : Int32) := ⟨_, rfl⟩
      refine lv_iinc (v := v41) (lv' := [(5, .int v41), (3, .long y40_0), (0, .ref (a 0)), (1, .int p0), (2, .int p1)]) hx hb d_Mo_carriedAt_41 hl (k := 4) rfl (by rw [ev41]; rfl) (by decide) rfl (fun ls hl => ?_)
      have hw := zw_nm_x ev41 hw
      refine lv_goto (tgt := 5) hx hb d_Mo_carriedAt_44 (by decide) ?_
      exact (ih5 y40_0 v41 hw) ls (lv_sub hl [2, 3, 4, 1, 0] rfl)
    · refine lv_icmp_gt (tgt := 39) hx hb d_Mo_carriedAt_22 (by decide) (fun c22 => ?_) (fun c22 => ?_)
      · have hw := zw_ite_t c22 hw
        refine lv_lload_n hx hb d_Mo_carriedAt_39 rfl (lv_at hl 3 rfl) ?_
        exact (hj40 x5_3 hw) ls (lv_sub hl [0, 1, 2, 4] rfl)
      · have hw := zw_ite_f c22 hw
        refine lv_aload_n hx hb d_Mo_carriedAt_25 rfl (lv_at hl 0 rfl) ?_
        refine va_get (D := (dC, dI)) (ci := 7) (v := .ref (a 23)) (C := R_Mo) (T := T_Mo) (N := 36) hx hb ht in_Mo hown hK hP 0 rfl rfl 31 (by decide) (ht _ kw_644) (fun _ h9 => h9) rfl d_Mo_carriedAt_26 ?_
        refine lv_iconst (v := (3 : Int32)) hx hb d_Mo_carriedAt_29 (by decide) ?_
        refine lv_iload hx hb d_Mo_carriedAt_30 (lv_at hl 4 rfl) ?_
        refine lv_imul hx hb d_Mo_carriedAt_32 ?_
        refine lv_iload_n hx hb d_Mo_carriedAt_33 rfl (lv_at hl 1 rfl) ?_
        refine lv_iadd hx hb d_Mo_carriedAt_34 ?_
        obtain ⟨h35, hw⟩ := hw
        refine va_lald (f := al 23) hx hb hK hP 23 1 rfl rfl h35 d_Mo_carriedAt_35 ?_
        refine lv_goto (tgt := 40) hx hb d_Mo_carriedAt_36 (by decide) ?_
        exact (hj40 (al 23 (((3 : Int32) * x5_5) + p0).toNatClampNeg) hw) ls (lv_sub hl [0, 1, 2, 4] rfl)
def Mo_carries_w (fi : Nat → Int32) (fl : Nat → Int64) (ai : Nat → Nat → Int32) (al : Nat → Nat → Int64) (p0 : Int32) (p1 : Int32) (K : Int64 → (Nat → Int32) → (Nat → Nat → Int32) → (Nat → Nat → Int64) → Prop) : Prop :=
  Mo_passPlan_w fi fl ai al  (fun (fi_1 : Nat → Int32) (ai_1 : Nat → Nat → Int32) (al_1 : Nat → Nat → Int64) =>
  Mo_in_w p0.toInt64 (0 : Int64) (2 : Int64) (fun (r10 : Int32) =>
  if r10 = 0 then (
    K (-1000000000000000000 : Int64) fi_1 ai_1 al_1)
  else (
    Mo_isStage_w fi_1 fl ai_1 al_1 p1 (fun (r18 : Int32) =>
    if r18 = 0 then (
      K (-1000000000000000000 : Int64) fi_1 ai_1 al_1)
    else (
      Mo_carriedAt_w fi_1 fl ai_1 al_1 p0 p1 (fun (r27 : Int64) =>
      K r27 fi_1 ai_1 al_1))))))
theorem d_Mo_carries_0 : decode b_Mo_carries 0 = .ok (.aload_n 0, 1) := by decide +kernel
theorem d_Mo_carries_1 : decode b_Mo_carries 1 = .ok (.invokevirtual 203, 3) := by decide +kernel
theorem d_Mo_carries_4 : decode b_Mo_carries 4 = .ok (.iload_n 1, 1) := by decide +kernel
theorem d_Mo_carries_5 : decode b_Mo_carries 5 = .ok (.i2l, 1) := by decide +kernel
theorem d_Mo_carries_6 : decode b_Mo_carries 6 = .ok (.lconst 0, 1) := by decide +kernel
theorem d_Mo_carries_7 : decode b_Mo_carries 7 = .ok (.ldc2_w 124, 3) := by decide +kernel
theorem d_Mo_carries_10 : decode b_Mo_carries 10 = .ok (.invokestatic 103, 3) := by decide +kernel
theorem d_Mo_carries_13 : decode b_Mo_carries 13 = .ok (.ifCond .eq (20), 3) := by decide +kernel
theorem d_Mo_carries_16 : decode b_Mo_carries 16 = .ok (.aload_n 0, 1) := by decide +kernel
theorem d_Mo_carries_17 : decode b_Mo_carries 17 = .ok (.iload_n 2, 1) := by decide +kernel
theorem d_Mo_carries_18 : decode b_Mo_carries 18 = .ok (.invokevirtual 197, 3) := by decide +kernel
theorem d_Mo_carries_21 : decode b_Mo_carries 21 = .ok (.ifCond .eq (12), 3) := by decide +kernel
theorem d_Mo_carries_24 : decode b_Mo_carries 24 = .ok (.aload_n 0, 1) := by decide +kernel
theorem d_Mo_carries_25 : decode b_Mo_carries 25 = .ok (.iload_n 1, 1) := by decide +kernel
theorem d_Mo_carries_26 : decode b_Mo_carries 26 = .ok (.iload_n 2, 1) := by decide +kernel
theorem d_Mo_carries_27 : decode b_Mo_carries 27 = .ok (.invokevirtual 215, 3) := by decide +kernel
theorem d_Mo_carries_30 : decode b_Mo_carries 30 = .ok (.goto (6), 3) := by decide +kernel
theorem d_Mo_carries_33 : decode b_Mo_carries 33 = .ok (.ldc2_w 148, 3) := by decide +kernel
theorem d_Mo_carries_36 : decode b_Mo_carries 36 = .ok (.lreturn, 1) := by decide +kernel
set_option maxHeartbeats 4000000 in
set_option maxRecDepth 100000 in
theorem c_Mo_carries (l : Launch) (dC : Nat → ClassId) (dI : Nat → Nat → Nat) (cI cJ cG cZ : ClassId) (a : Nat → Nat) (sz : Nat) (fi : Nat → Int32) (fl : Nat → Int64) (ai : Nat → Nat → Int32) (al : Nat → Nat → Int64) (p0 : Int32) (p1 : Int32) (K : Int64 → (Nat → Int32) → (Nat → Nat → Int32) → (Nat → Nat → Int64) → Prop) (hw : Mo_carries_w fi fl ai al p0 p1 K) : Met l y_Mo_carries ws_Mo_carries ({ frames := 3, cells := 0, slots := 0, locals := 70 }) (va_Pc [.ref (a 0), .int p0, .int p1] (zw_Bw (dC, dI) vwCl [(cI, .int), (cJ, .long), (cG, .array .int), (cZ, .boolean)] (mw cI cJ cG cZ a fi fl ai al) sz)) (va_Ql (fun r (u : zw_Z) => (zw_k_fi_ai_alr fl K) r u.1 u.2.1 u.2.2.1 u.2.2.2) (fun u t => zw_E (dC, dI) vwCl [(cI, .int), (cJ, .long), (cG, .array .int), (cZ, .boolean)] (va_A (mw cI cJ cG cZ a fi fl ai al) sz) (mw cI cJ cG cZ a u.1 u.2.1 u.2.2.1 u.2.2.2) t) (va_A (mw cI cJ cG cZ a fi fl ai al) sz)) 0 0 (va_A (mw cI cJ cG cZ a fi fl ai al) sz) := by
  refine Met.ofW (cc := b_Mo_carries) (maxL := 3) (ret := (Option.some FieldType.long)) (by decide) rfl ?_
  intro p e s m args below meth c s₁ B hml hv
  obtain ⟨rfl, hsz, hP, hK, hD0, hN⟩ := hv
  have hx := B.exec
  have hb := B.bytes
  have hr := B.returns
  have hts := atoms_spec (ws := ws_Mo_carries) B.pre
  have ht : ∀ w ∈ zw_tbl, w.before _ s = true := fun w h => hts w (List.mem_cons_of_mem _ h)
  have hown : s.vm.findClass R_Mo = some m.cls := findClass_of_methodNamed B.named
  have hlocks := B.notSynchronized
  subst hsz
  have hD := hD0.self (sz := s.heap.size)
  generalize hAe : va_A (mw cI cJ cG cZ a fi fl ai al) s.heap.size = A at hD ⊢
  have hA : ∀ q : Nat, s.heap.size ≤ q → A q := fun q h => by rw [← hAe]; exact Or.inr h
  have hS : va_S A s.heap s.heap [] := va_S.rf
  have hl := lv_entry ([.ref (a 0), .int p0, .int p1] : List Value) (n := 3) (Nat.le_of_ble_eq_true rfl)
  rw [lg_entry_eq]
  generalize (lg_sl ([.ref (a 0), .int p0, .int p1] : List Value) ++ List.replicate (3 - (lg_sl ([.ref (a 0), .int p0, .int p1] : List Value)).length) Slot.unset).toArray = ls at hl ⊢
  have hl : lv_has ls 3 [(0, .ref (a 0)), (1, .int p0), (2, .int p1)] := hl
  unfold Mo_carries_w at hw
  obtain ⟨H, hH⟩ : ∃ H, H = s.heap := ⟨_, rfl⟩
  obtain ⟨locs, hlo⟩ : ∃ q : List Loc, q = [] := ⟨_, rfl⟩
  have hP : va_P (dC, dI) vwCl (mw cI cJ cG cZ a fi fl ai al) H := by rw [hH]; exact hP
  have hS : va_S A s.heap H locs := by rw [hH, hlo]; exact hS
  have key : W p l e (headSpec ws_Mo_carries ({ frames := 3, cells := 0, slots := 0, locals := 70 })).room s m ([.ref (a 0), .int p0, .int p1] : List Value).toArray below meth c H locs 0 0 (MQ below (va_Ql (fun r (u : zw_Z) => (zw_k_fi_ai_alr fl K) r u.1 u.2.1 u.2.2.1 u.2.2.2) (fun u t => zw_E (dC, dI) vwCl [(cI, .int), (cJ, .long), (cG, .array .int), (cZ, .boolean)] A (mw cI cJ cG cZ a u.1 u.2.1 u.2.2.1 u.2.2.2) t) A) ([.ref (a 0), .int p0, .int p1] : List Value).toArray s 0 0 A) (F0 m 0 ls []) := by
    refine lv_aload_n hx hb d_Mo_carries_0 rfl (lv_at hl 0 rfl) ?_
    refine zw_cv (va_runV (As := []) (rest := []) ⟨hx, hb, hml, hown, hts⟩ (c_Mo_passPlan l dC dI cI cJ cG cZ a H.size fi fl ai al _ hw) (cwV 0 hts (zw_goodV kw_816 kw_818 kw_s24 kw_9 kw_819) rfl rfl rfl hd_Mo_passPlan ⟨Nat.le_of_ble_eq_true rfl, Nat.le_of_ble_eq_true rfl⟩) (zw_preVw (ci := 7) (q0 := 0) hK hN hP hD rfl rfl) rfl rfl hl.1 rfl (lv_room (Nat.le_of_ble_eq_true rfl)) d_Mo_carries_1 ⟨Nat.le_of_ble_eq_true rfl, Nat.le_of_ble_eq_true rfl⟩) hD hS hA (fun fi_1 fl_1 ai_1 al_1 H locs hw hP hD hS => ?_)
    obtain ⟨rfl, hw⟩ := hw
    refine lv_iload_n hx hb d_Mo_carries_4 rfl (lv_at hl 1 rfl) ?_
    refine lv_i2l hx hb d_Mo_carries_5 rfl ?_
    refine lv_lconst (v := (0 : Int64)) hx hb d_Mo_carries_6 (by decide) ?_
    refine lv_ldc2 (v := (2 : Int64)) hx hb hown (hts (.constantLong R_Mo 124 (2 : Int64)) (by decide +kernel)) d_Mo_carries_7 ?_
    refine vp_callSi (va_Run.run (va_runS (As := [.long p0.toInt64, .long (0 : Int64), .long (2 : Int64)]) (rest := []) ⟨hx, hb, hml, hown, hts⟩ (c_Mo_in l p0.toInt64 (0 : Int64) (2 : Int64) _ hw) (va_cwS 3 hts (zw_goodS kw_731 kw_732 kw_9 kw_733) rfl rfl rfl hd_Mo_in.2 ⟨Nat.le_of_ble_eq_true rfl, Nat.le_of_ble_eq_true rfl⟩) zw_preS0 rfl rfl hl.1 rfl (lv_room (Nat.le_of_ble_eq_true rfl)) d_Mo_carries_10 ⟨Nat.le_of_ble_eq_true rfl, Nat.le_of_ble_eq_true rfl⟩)) (fun r10 hw => ?_)
    refine lv_if_eq (tgt := 33) hx hb d_Mo_carries_13 (by decide) (fun c13 => ?_) (fun c13 => ?_)
    · have hw := zw_ite_t c13 hw
      refine lv_ldc2 (v := (-1000000000000000000 : Int64)) hx hb hown (hts (.constantLong R_Mo 148 (-1000000000000000000 : Int64)) (by decide +kernel)) d_Mo_carries_33 ?_
      exact W.lret (v := (-1000000000000000000 : Int64)) hx hb hr (fun t ht hW => ⟨⟨(-1000000000000000000 : Int64), (fi_1, fl, ai_1, al_1), rfl, ⟨rfl, hw⟩, by rw [ht]; exact hP, va_K.moved hW.alike hK, hD⟩, hS.F ht⟩) hS.2.2 d_Mo_carries_36
    · have hw := zw_ite_f c13 hw
      refine lv_aload_n hx hb d_Mo_carries_16 rfl (lv_at hl 0 rfl) ?_
      refine lv_iload_n hx hb d_Mo_carries_17 rfl (lv_at hl 2 rfl) ?_
      refine vp_callSi (va_Run.run (va_runV (As := [.int p1]) (rest := []) ⟨hx, hb, hml, hown, hts⟩ (c_Mo_isStage l dC dI cI cJ cG cZ a fi_1 fl ai_1 al_1 p1 _ hw) (cwV 1 hts (zw_goodV kw_836 kw_838 kw_s29 kw_9 kw_839) rfl rfl rfl hd_Mo_isStage ⟨Nat.le_of_ble_eq_true rfl, Nat.le_of_ble_eq_true rfl⟩) (zw_preV (ci := 7) (q0 := 0) hK hN hP rfl rfl) rfl rfl hl.1 rfl (lv_room (Nat.le_of_ble_eq_true rfl)) d_Mo_carries_18 ⟨Nat.le_of_ble_eq_true rfl, Nat.le_of_ble_eq_true rfl⟩)) (fun r18 hw => ?_)
      refine lv_if_eq (tgt := 33) hx hb d_Mo_carries_21 (by decide) (fun c21 => ?_) (fun c21 => ?_)
      · have hw := zw_ite_t c21 hw
        refine lv_ldc2 (v := (-1000000000000000000 : Int64)) hx hb hown (hts (.constantLong R_Mo 148 (-1000000000000000000 : Int64)) (by decide +kernel)) d_Mo_carries_33 ?_
        exact W.lret (v := (-1000000000000000000 : Int64)) hx hb hr (fun t ht hW => ⟨⟨(-1000000000000000000 : Int64), (fi_1, fl, ai_1, al_1), rfl, ⟨rfl, hw⟩, by rw [ht]; exact hP, va_K.moved hW.alike hK, hD⟩, hS.F ht⟩) hS.2.2 d_Mo_carries_36
      · have hw := zw_ite_f c21 hw
        refine lv_aload_n hx hb d_Mo_carries_24 rfl (lv_at hl 0 rfl) ?_
        refine lv_iload_n hx hb d_Mo_carries_25 rfl (lv_at hl 1 rfl) ?_
        refine lv_iload_n hx hb d_Mo_carries_26 rfl (lv_at hl 2 rfl) ?_
        refine vp_callSl (va_Run.run (va_runV (As := [.int p0, .int p1]) (rest := []) ⟨hx, hb, hml, hown, hts⟩ (c_Mo_carriedAt l dC dI cI cJ cG cZ a fi_1 fl ai_1 al_1 p0 p1 _ hw) (cwV 2 hts (zw_goodV kw_878 kw_880 kw_s37 kw_9 kw_881) rfl rfl rfl hd_Mo_carriedAt ⟨Nat.le_of_ble_eq_true rfl, Nat.le_of_ble_eq_true rfl⟩) (zw_preV (ci := 7) (q0 := 0) hK hN hP rfl rfl) rfl rfl hl.1 rfl (lv_room (Nat.le_of_ble_eq_true rfl)) d_Mo_carries_27 ⟨Nat.le_of_ble_eq_true rfl, Nat.le_of_ble_eq_true rfl⟩)) (fun r27 hw => ?_)
        refine lv_goto (tgt := 36) hx hb d_Mo_carries_30 (by decide) ?_
        exact W.lret (v := r27) hx hb hr (fun t ht hW => ⟨⟨r27, (fi_1, fl, ai_1, al_1), rfl, ⟨rfl, hw⟩, by rw [ht]; exact hP, va_K.moved hW.alike hK, hD⟩, hS.F ht⟩) hS.2.2 d_Mo_carries_36
  rw [hH, hlo] at key
  exact key
def Mo_survey_w (fi : Nat → Int32) (fl : Nat → Int64) (ai : Nat → Nat → Int32) (al : Nat → Nat → Int64) (p0 : Int32) (p1 : Int32) (p2 : Int32) (K : Int64 → (Nat → Int32) → (Nat → Nat → Int32) → (Nat → Nat → Int64) → Prop) : Prop :=
  Mo_passPlan_w fi fl ai al  (fun (fi_1 : Nat → Int32) (ai_1 : Nat → Nat → Int32) (al_1 : Nat → Nat → Int64) =>
  Mo_isThere_w fi_1 fl ai_1 al_1 p0 p1 (fun (r7 : Int32) =>
  if r7 = 0 then (
    K (-1000000000000000000 : Int64) fi_1 ai_1 al_1)
  else (
    Mo_in_w p2.toInt64 (-1000000 : Int64) (1000000 : Int64) (fun (r21 : Int32) =>
    if r21 = 0 then (
      K (-1000000000000000000 : Int64) fi_1 ai_1 al_1)
    else (
      Mo_levelAt_w fi_1 fl ai_1 al_1 p0 p1 (fun (r40 : Int64) =>
      zw_nm (((1000000000 : Int64) * p2.toInt64) - r40) (fun (v44 : Int64) =>
      zw_nm (0 : Int64) (fun (v47 : Int64) =>
      zw_nm (0 : Int32) (fun (v50 : Int32) =>
      zw_lp3 (fun L52 (x52_6 : Int64) (x52_8 : Int32) (al52 : Nat → Nat → Int64) =>
      if (fi_1 3) ≤ x52_8 then (
        K v44 fi_1 ai_1 al52)
      else (
        vp_in x52_8 40 ∧ (
        zw_jn2 (fun (x153_6 : Int64) (al153 : Nat → Nat → Int64) =>
        zw_nm (x52_8 + (1 : Int32)) (fun (v153 : Int32) =>
        L52 x153_6 v153 al153)) (fun J153 =>
        if (ai_1 10 x52_8.toNatClampNeg) = 0 then (
          vp_in x52_8 40 ∧ (
          if (ai_1 13 x52_8.toNatClampNeg) ≤ p1 then (
            J153 x52_6 al52)
          else (
            zw_nm (x52_6 + ((1000000000 : Int64) * (fi_1 5).toInt64)) (fun (v94 : Int64) =>
            vp_in x52_8 40 ∧ (
            zw_jn1 (fun (y152_0 : Int64) =>
            vp_in (ai_1 11 x52_8.toNatClampNeg) 6 ∧ (zw_nm (va_up al52 14 (vp_updL (al52 14) (ai_1 11 x52_8.toNatClampNeg).toNatClampNeg y152_0)) (fun (al_152 : Nat → Nat → Int64) =>
            J153 v94 al_152))) (fun J152 =>
            if v44 ≤ (0 : Int64) then (
              if (-v94) ≤ v44 then (
                J152 (0 : Int64))
              else (
                J152 (v44 + v94)))
            else (
              if v44 ≤ v94 then (
                J152 (0 : Int64))
              else (
                J152 (v44 - v94)))))))))
        else (
          J153 x52_6 al52))))) v47 v50 al_1)))))))))
theorem d_Mo_survey_0 : decode b_Mo_survey 0 = .ok (.aload_n 0, 1) := by decide +kernel
theorem d_Mo_survey_1 : decode b_Mo_survey 1 = .ok (.invokevirtual 203, 3) := by decide +kernel
theorem d_Mo_survey_4 : decode b_Mo_survey 4 = .ok (.aload_n 0, 1) := by decide +kernel
theorem d_Mo_survey_5 : decode b_Mo_survey 5 = .ok (.iload_n 1, 1) := by decide +kernel
theorem d_Mo_survey_6 : decode b_Mo_survey 6 = .ok (.iload_n 2, 1) := by decide +kernel
theorem d_Mo_survey_7 : decode b_Mo_survey 7 = .ok (.invokevirtual 206, 3) := by decide +kernel
theorem d_Mo_survey_10 : decode b_Mo_survey 10 = .ok (.ifCond .eq (17), 3) := by decide +kernel
theorem d_Mo_survey_13 : decode b_Mo_survey 13 = .ok (.iload_n 3, 1) := by decide +kernel
theorem d_Mo_survey_14 : decode b_Mo_survey 14 = .ok (.i2l, 1) := by decide +kernel
theorem d_Mo_survey_15 : decode b_Mo_survey 15 = .ok (.ldc2_w 218, 3) := by decide +kernel
theorem d_Mo_survey_18 : decode b_Mo_survey 18 = .ok (.ldc2_w 220, 3) := by decide +kernel
theorem d_Mo_survey_21 : decode b_Mo_survey 21 = .ok (.invokestatic 103, 3) := by decide +kernel
theorem d_Mo_survey_24 : decode b_Mo_survey 24 = .ok (.ifCond .ne (7), 3) := by decide +kernel
theorem d_Mo_survey_27 : decode b_Mo_survey 27 = .ok (.ldc2_w 148, 3) := by decide +kernel
theorem d_Mo_survey_30 : decode b_Mo_survey 30 = .ok (.lreturn, 1) := by decide +kernel
theorem d_Mo_survey_31 : decode b_Mo_survey 31 = .ok (.ldc2_w 185, 3) := by decide +kernel
theorem d_Mo_survey_34 : decode b_Mo_survey 34 = .ok (.iload_n 3, 1) := by decide +kernel
theorem d_Mo_survey_35 : decode b_Mo_survey 35 = .ok (.i2l, 1) := by decide +kernel
theorem d_Mo_survey_36 : decode b_Mo_survey 36 = .ok (.lmul, 1) := by decide +kernel
theorem d_Mo_survey_37 : decode b_Mo_survey 37 = .ok (.aload_n 0, 1) := by decide +kernel
theorem d_Mo_survey_38 : decode b_Mo_survey 38 = .ok (.iload_n 1, 1) := by decide +kernel
theorem d_Mo_survey_39 : decode b_Mo_survey 39 = .ok (.iload_n 2, 1) := by decide +kernel
theorem d_Mo_survey_40 : decode b_Mo_survey 40 = .ok (.invokevirtual 209, 3) := by decide +kernel
theorem d_Mo_survey_43 : decode b_Mo_survey 43 = .ok (.lsub, 1) := by decide +kernel
theorem d_Mo_survey_44 : decode b_Mo_survey 44 = .ok (.lstore 4, 2) := by decide +kernel
theorem d_Mo_survey_46 : decode b_Mo_survey 46 = .ok (.lconst 0, 1) := by decide +kernel
theorem d_Mo_survey_47 : decode b_Mo_survey 47 = .ok (.lstore 6, 2) := by decide +kernel
theorem d_Mo_survey_49 : decode b_Mo_survey 49 = .ok (.iconst 0, 1) := by decide +kernel
theorem d_Mo_survey_50 : decode b_Mo_survey 50 = .ok (.istore 8, 2) := by decide +kernel
theorem d_Mo_survey_52 : decode b_Mo_survey 52 = .ok (.iload 8, 2) := by decide +kernel
theorem d_Mo_survey_54 : decode b_Mo_survey 54 = .ok (.aload_n 0, 1) := by decide +kernel
theorem d_Mo_survey_55 : decode b_Mo_survey 55 = .ok (.getfield 133, 3) := by decide +kernel
theorem d_Mo_survey_58 : decode b_Mo_survey 58 = .ok (.if_icmp .ge (101), 3) := by decide +kernel
theorem d_Mo_survey_61 : decode b_Mo_survey 61 = .ok (.aload_n 0, 1) := by decide +kernel
theorem d_Mo_survey_62 : decode b_Mo_survey 62 = .ok (.getfield 38, 3) := by decide +kernel
theorem d_Mo_survey_65 : decode b_Mo_survey 65 = .ok (.iload 8, 2) := by decide +kernel
theorem d_Mo_survey_67 : decode b_Mo_survey 67 = .ok (.iaload, 1) := by decide +kernel
theorem d_Mo_survey_68 : decode b_Mo_survey 68 = .ok (.ifCond .ne (85), 3) := by decide +kernel
theorem d_Mo_survey_71 : decode b_Mo_survey 71 = .ok (.aload_n 0, 1) := by decide +kernel
theorem d_Mo_survey_72 : decode b_Mo_survey 72 = .ok (.getfield 47, 3) := by decide +kernel
theorem d_Mo_survey_75 : decode b_Mo_survey 75 = .ok (.iload 8, 2) := by decide +kernel
theorem d_Mo_survey_77 : decode b_Mo_survey 77 = .ok (.iaload, 1) := by decide +kernel
theorem d_Mo_survey_78 : decode b_Mo_survey 78 = .ok (.iload_n 2, 1) := by decide +kernel
theorem d_Mo_survey_79 : decode b_Mo_survey 79 = .ok (.if_icmp .le (74), 3) := by decide +kernel
theorem d_Mo_survey_82 : decode b_Mo_survey 82 = .ok (.lload 6, 2) := by decide +kernel
theorem d_Mo_survey_84 : decode b_Mo_survey 84 = .ok (.ldc2_w 185, 3) := by decide +kernel
theorem d_Mo_survey_87 : decode b_Mo_survey 87 = .ok (.aload_n 0, 1) := by decide +kernel
theorem d_Mo_survey_88 : decode b_Mo_survey 88 = .ok (.getfield 58, 3) := by decide +kernel
theorem d_Mo_survey_91 : decode b_Mo_survey 91 = .ok (.i2l, 1) := by decide +kernel
theorem d_Mo_survey_92 : decode b_Mo_survey 92 = .ok (.lmul, 1) := by decide +kernel
theorem d_Mo_survey_93 : decode b_Mo_survey 93 = .ok (.ladd, 1) := by decide +kernel
theorem d_Mo_survey_94 : decode b_Mo_survey 94 = .ok (.lstore 6, 2) := by decide +kernel
theorem d_Mo_survey_96 : decode b_Mo_survey 96 = .ok (.aload_n 0, 1) := by decide +kernel
theorem d_Mo_survey_97 : decode b_Mo_survey 97 = .ok (.getfield 50, 3) := by decide +kernel
theorem d_Mo_survey_100 : decode b_Mo_survey 100 = .ok (.aload_n 0, 1) := by decide +kernel
theorem d_Mo_survey_101 : decode b_Mo_survey 101 = .ok (.getfield 41, 3) := by decide +kernel
theorem d_Mo_survey_104 : decode b_Mo_survey 104 = .ok (.iload 8, 2) := by decide +kernel
theorem d_Mo_survey_106 : decode b_Mo_survey 106 = .ok (.iaload, 1) := by decide +kernel
theorem d_Mo_survey_107 : decode b_Mo_survey 107 = .ok (.lload 4, 2) := by decide +kernel
theorem d_Mo_survey_109 : decode b_Mo_survey 109 = .ok (.lconst 0, 1) := by decide +kernel
theorem d_Mo_survey_110 : decode b_Mo_survey 110 = .ok (.lcmp, 1) := by decide +kernel
theorem d_Mo_survey_111 : decode b_Mo_survey 111 = .ok (.ifCond .le (23), 3) := by decide +kernel
theorem d_Mo_survey_114 : decode b_Mo_survey 114 = .ok (.lload 4, 2) := by decide +kernel
theorem d_Mo_survey_116 : decode b_Mo_survey 116 = .ok (.lload 6, 2) := by decide +kernel
theorem d_Mo_survey_118 : decode b_Mo_survey 118 = .ok (.lcmp, 1) := by decide +kernel
theorem d_Mo_survey_119 : decode b_Mo_survey 119 = .ok (.ifCond .le (11), 3) := by decide +kernel
theorem d_Mo_survey_122 : decode b_Mo_survey 122 = .ok (.lload 4, 2) := by decide +kernel
theorem d_Mo_survey_124 : decode b_Mo_survey 124 = .ok (.lload 6, 2) := by decide +kernel
theorem d_Mo_survey_126 : decode b_Mo_survey 126 = .ok (.lsub, 1) := by decide +kernel
theorem d_Mo_survey_127 : decode b_Mo_survey 127 = .ok (.goto (25), 3) := by decide +kernel
theorem d_Mo_survey_130 : decode b_Mo_survey 130 = .ok (.lconst 0, 1) := by decide +kernel
theorem d_Mo_survey_131 : decode b_Mo_survey 131 = .ok (.goto (21), 3) := by decide +kernel
theorem d_Mo_survey_134 : decode b_Mo_survey 134 = .ok (.lload 4, 2) := by decide +kernel
theorem d_Mo_survey_136 : decode b_Mo_survey 136 = .ok (.lload 6, 2) := by decide +kernel
theorem d_Mo_survey_138 : decode b_Mo_survey 138 = .ok (.lneg, 1) := by decide +kernel
theorem d_Mo_survey_139 : decode b_Mo_survey 139 = .ok (.lcmp, 1) := by decide +kernel
theorem d_Mo_survey_140 : decode b_Mo_survey 140 = .ok (.ifCond .ge (11), 3) := by decide +kernel
theorem d_Mo_survey_143 : decode b_Mo_survey 143 = .ok (.lload 4, 2) := by decide +kernel
theorem d_Mo_survey_145 : decode b_Mo_survey 145 = .ok (.lload 6, 2) := by decide +kernel
theorem d_Mo_survey_147 : decode b_Mo_survey 147 = .ok (.ladd, 1) := by decide +kernel
theorem d_Mo_survey_148 : decode b_Mo_survey 148 = .ok (.goto (4), 3) := by decide +kernel
theorem d_Mo_survey_151 : decode b_Mo_survey 151 = .ok (.lconst 0, 1) := by decide +kernel
theorem d_Mo_survey_152 : decode b_Mo_survey 152 = .ok (.lastore, 1) := by decide +kernel
theorem d_Mo_survey_153 : decode b_Mo_survey 153 = .ok (.iinc 8 (1), 3) := by decide +kernel
theorem d_Mo_survey_156 : decode b_Mo_survey 156 = .ok (.goto (-104), 3) := by decide +kernel
theorem d_Mo_survey_159 : decode b_Mo_survey 159 = .ok (.lload 4, 2) := by decide +kernel
theorem d_Mo_survey_161 : decode b_Mo_survey 161 = .ok (.lreturn, 1) := by decide +kernel
set_option maxHeartbeats 4000000 in
set_option maxRecDepth 100000 in
theorem c_Mo_survey (l : Launch) (dC : Nat → ClassId) (dI : Nat → Nat → Nat) (cI cJ cG cZ : ClassId) (a : Nat → Nat) (sz : Nat) (fi : Nat → Int32) (fl : Nat → Int64) (ai : Nat → Nat → Int32) (al : Nat → Nat → Int64) (p0 : Int32) (p1 : Int32) (p2 : Int32) (K : Int64 → (Nat → Int32) → (Nat → Nat → Int32) → (Nat → Nat → Int64) → Prop) (hw : Mo_survey_w fi fl ai al p0 p1 p2 K) : Met l y_Mo_survey ws_Mo_survey ({ frames := 5, cells := 0, slots := 0, locals := 117 }) (va_Pc [.ref (a 0), .int p0, .int p1, .int p2] (zw_Bw (dC, dI) vwCl [(cI, .int), (cJ, .long), (cG, .array .int), (cZ, .boolean)] (mw cI cJ cG cZ a fi fl ai al) sz)) (va_Ql (fun r (u : zw_Z) => (zw_k_fi_ai_alr fl K) r u.1 u.2.1 u.2.2.1 u.2.2.2) (fun u t => zw_E (dC, dI) vwCl [(cI, .int), (cJ, .long), (cG, .array .int), (cZ, .boolean)] (va_A (mw cI cJ cG cZ a fi fl ai al) sz) (mw cI cJ cG cZ a u.1 u.2.1 u.2.2.1 u.2.2.2) t) (va_A (mw cI cJ cG cZ a fi fl ai al) sz)) 0 0 (va_A (mw cI cJ cG cZ a fi fl ai al) sz) := by
  refine Met.ofW (cc := b_Mo_survey) (maxL := 9) (ret := (Option.some FieldType.long)) (by decide) rfl ?_
  intro p e s m args below meth c s₁ B hml hv
  obtain ⟨rfl, hsz, hP, hK, hD0, hN⟩ := hv
  have hx := B.exec
  have hb := B.bytes
  have hr := B.returns
  have hts := atoms_spec (ws := ws_Mo_survey) B.pre
  have ht : ∀ w ∈ zw_tbl, w.before _ s = true := fun w h => hts w (List.mem_cons_of_mem _ h)
  have hown : s.vm.findClass R_Mo = some m.cls := findClass_of_methodNamed B.named
  have hlocks := B.notSynchronized
  subst hsz
  have hD := hD0.self (sz := s.heap.size)
  generalize hAe : va_A (mw cI cJ cG cZ a fi fl ai al) s.heap.size = A at hD ⊢
  have hA : ∀ q : Nat, s.heap.size ≤ q → A q := fun q h => by rw [← hAe]; exact Or.inr h
  have hS : va_S A s.heap s.heap [] := va_S.rf
  have hl := lv_entry ([.ref (a 0), .int p0, .int p1, .int p2] : List Value) (n := 9) (Nat.le_of_ble_eq_true rfl)
  rw [lg_entry_eq]
  generalize (lg_sl ([.ref (a 0), .int p0, .int p1, .int p2] : List Value) ++ List.replicate (9 - (lg_sl ([.ref (a 0), .int p0, .int p1, .int p2] : List Value)).length) Slot.unset).toArray = ls at hl ⊢
  have hl : lv_has ls 9 [(0, .ref (a 0)), (1, .int p0), (2, .int p1), (3, .int p2)] := hl
  unfold Mo_survey_w at hw
  obtain ⟨H, hH⟩ : ∃ H, H = s.heap := ⟨_, rfl⟩
  obtain ⟨locs, hlo⟩ : ∃ q : List Loc, q = [] := ⟨_, rfl⟩
  have hP : va_P (dC, dI) vwCl (mw cI cJ cG cZ a fi fl ai al) H := by rw [hH]; exact hP
  have hS : va_S A s.heap H locs := by rw [hH, hlo]; exact hS
  have key : W p l e (headSpec ws_Mo_survey ({ frames := 5, cells := 0, slots := 0, locals := 117 })).room s m ([.ref (a 0), .int p0, .int p1, .int p2] : List Value).toArray below meth c H locs 0 0 (MQ below (va_Ql (fun r (u : zw_Z) => (zw_k_fi_ai_alr fl K) r u.1 u.2.1 u.2.2.1 u.2.2.2) (fun u t => zw_E (dC, dI) vwCl [(cI, .int), (cJ, .long), (cG, .array .int), (cZ, .boolean)] A (mw cI cJ cG cZ a u.1 u.2.1 u.2.2.1 u.2.2.2) t) A) ([.ref (a 0), .int p0, .int p1, .int p2] : List Value).toArray s 0 0 A) (F0 m 0 ls []) := by
    refine lv_aload_n hx hb d_Mo_survey_0 rfl (lv_at hl 0 rfl) ?_
    refine zw_cv (va_runV (As := []) (rest := []) ⟨hx, hb, hml, hown, hts⟩ (c_Mo_passPlan l dC dI cI cJ cG cZ a H.size fi fl ai al _ hw) (cwV 0 hts (zw_goodV kw_816 kw_818 kw_s24 kw_9 kw_819) rfl rfl rfl hd_Mo_passPlan ⟨Nat.le_of_ble_eq_true rfl, Nat.le_of_ble_eq_true rfl⟩) (zw_preVw (ci := 7) (q0 := 0) hK hN hP hD rfl rfl) rfl rfl hl.1 rfl (lv_room (Nat.le_of_ble_eq_true rfl)) d_Mo_survey_1 ⟨Nat.le_of_ble_eq_true rfl, Nat.le_of_ble_eq_true rfl⟩) hD hS hA (fun fi_1 fl_1 ai_1 al_1 H locs hw hP hD hS => ?_)
    obtain ⟨rfl, hw⟩ := hw
    refine lv_aload_n hx hb d_Mo_survey_4 rfl (lv_at hl 0 rfl) ?_
    refine lv_iload_n hx hb d_Mo_survey_5 rfl (lv_at hl 1 rfl) ?_
    refine lv_iload_n hx hb d_Mo_survey_6 rfl (lv_at hl 2 rfl) ?_
    refine vp_callSi (va_Run.run (va_runV (As := [.int p0, .int p1]) (rest := []) ⟨hx, hb, hml, hown, hts⟩ (c_Mo_isThere l dC dI cI cJ cG cZ a fi_1 fl ai_1 al_1 p0 p1 _ hw) (cwV 2 hts (zw_goodV kw_832 kw_834 kw_s28 kw_9 kw_835) rfl rfl rfl hd_Mo_isThere ⟨Nat.le_of_ble_eq_true rfl, Nat.le_of_ble_eq_true rfl⟩) (zw_preV (ci := 7) (q0 := 0) hK hN hP rfl rfl) rfl rfl hl.1 rfl (lv_room (Nat.le_of_ble_eq_true rfl)) d_Mo_survey_7 ⟨Nat.le_of_ble_eq_true rfl, Nat.le_of_ble_eq_true rfl⟩)) (fun r7 hw => ?_)
    refine lv_if_eq (tgt := 27) hx hb d_Mo_survey_10 (by decide) (fun c10 => ?_) (fun c10 => ?_)
    · have hw := zw_ite_t c10 hw
      refine lv_ldc2 (v := (-1000000000000000000 : Int64)) hx hb hown (hts (.constantLong R_Mo 148 (-1000000000000000000 : Int64)) (by decide +kernel)) d_Mo_survey_27 ?_
      exact W.lret (v := (-1000000000000000000 : Int64)) hx hb hr (fun t ht hW => ⟨⟨(-1000000000000000000 : Int64), (fi_1, fl, ai_1, al_1), rfl, ⟨rfl, hw⟩, by rw [ht]; exact hP, va_K.moved hW.alike hK, hD⟩, hS.F ht⟩) hS.2.2 d_Mo_survey_30
    · have hw := zw_ite_f c10 hw
      refine lv_iload_n hx hb d_Mo_survey_13 rfl (lv_at hl 3 rfl) ?_
      refine lv_i2l hx hb d_Mo_survey_14 rfl ?_
      refine lv_ldc2 (v := (-1000000 : Int64)) hx hb hown (hts (.constantLong R_Mo 218 (-1000000 : Int64)) (by decide +kernel)) d_Mo_survey_15 ?_
      refine lv_ldc2 (v := (1000000 : Int64)) hx hb hown (hts (.constantLong R_Mo 220 (1000000 : Int64)) (by decide +kernel)) d_Mo_survey_18 ?_
      refine vp_callSi (va_Run.run (va_runS (As := [.long p2.toInt64, .long (-1000000 : Int64), .long (1000000 : Int64)]) (rest := []) ⟨hx, hb, hml, hown, hts⟩ (c_Mo_in l p2.toInt64 (-1000000 : Int64) (1000000 : Int64) _ hw) (va_cwS 3 hts (zw_goodS kw_731 kw_732 kw_9 kw_733) rfl rfl rfl hd_Mo_in.2 ⟨Nat.le_of_ble_eq_true rfl, Nat.le_of_ble_eq_true rfl⟩) zw_preS0 rfl rfl hl.1 rfl (lv_room (Nat.le_of_ble_eq_true rfl)) d_Mo_survey_21 ⟨Nat.le_of_ble_eq_true rfl, Nat.le_of_ble_eq_true rfl⟩)) (fun r21 hw => ?_)
      refine lv_if_ne (tgt := 31) hx hb d_Mo_survey_24 (by decide) (fun c24 => ?_) (fun c24 => ?_)
      · have hw := zw_ite_f c24 hw
        refine lv_ldc2 (v := (1000000000 : Int64)) hx hb hown (hts (.constantLong R_Mo 185 (1000000000 : Int64)) (by decide +kernel)) d_Mo_survey_31 ?_
        refine lv_iload_n hx hb d_Mo_survey_34 rfl (lv_at hl 3 rfl) ?_
        refine lv_i2l hx hb d_Mo_survey_35 rfl ?_
        refine lv_lmul hx hb d_Mo_survey_36 ?_
        refine lv_aload_n hx hb d_Mo_survey_37 rfl (lv_at hl 0 rfl) ?_
        refine lv_iload_n hx hb d_Mo_survey_38 rfl (lv_at hl 1 rfl) ?_
        refine lv_iload_n hx hb d_Mo_survey_39 rfl (lv_at hl 2 rfl) ?_
        refine vp_callSl (va_Run.run (va_runV (As := [.int p0, .int p1]) (rest := [.long ((1000000000 : Int64) * p2.toInt64)]) ⟨hx, hb, hml, hown, hts⟩ (c_Mo_levelAt l dC dI cI cJ cG cZ a fi_1 fl ai_1 al_1 p0 p1 _ hw) (cwV 2 hts (zw_goodV kw_840 kw_842 kw_s30 kw_9 kw_843) rfl rfl rfl hd_Mo_levelAt ⟨Nat.le_of_ble_eq_true rfl, Nat.le_of_ble_eq_true rfl⟩) (zw_preV (ci := 7) (q0 := 0) hK hN hP rfl rfl) rfl rfl hl.1 rfl (lv_room (Nat.le_of_ble_eq_true rfl)) d_Mo_survey_40 ⟨Nat.le_of_ble_eq_true rfl, Nat.le_of_ble_eq_true rfl⟩)) (fun r40 hw => ?_)
        refine lv_lsub hx hb d_Mo_survey_43 ?_
        refine lv_topl (fun v44 ev44 => ?_)
        have hw := zw_nm_x ev44 hw
        refine lv_lstore (lv' := [(4, .long v44), (0, .ref (a 0)), (1, .int p0), (2, .int p1), (3, .int p2)]) hx hb d_Mo_survey_44 hl (by decide) rfl (fun ls hl => ?_)
        refine lv_lconst (v := (0 : Int64)) hx hb d_Mo_survey_46 (by decide) ?_
        refine lv_topl (fun v47 ev47 => ?_)
        have hw := zw_nm_x ev47 hw
        refine lv_lstore (lv' := [(6, .long v47), (4, .long v44), (0, .ref (a 0)), (1, .int p0), (2, .int p1), (3, .int p2)]) hx hb d_Mo_survey_47 hl (by decide) rfl (fun ls hl => ?_)
        refine lv_iconst (v := (0 : Int32)) hx hb d_Mo_survey_49 (by decide) ?_
        refine lv_topi (fun v50 ev50 => ?_)
        have hw := zw_nm_x ev50 hw
        refine lv_istore (lv' := [(8, .int v50), (6, .long v47), (4, .long v44), (0, .ref (a 0)), (1, .int p0), (2, .int p1), (3, .int p2)]) hx hb d_Mo_survey_50 hl (by decide) rfl (fun ls hl => ?_)
        refine (zw_lp3_i (P := fun (x52_6 : Int64) (x52_8 : Int32) (al52 : Nat → Nat → Int64) => ∀ (H : Heap) (locs : List Loc) (ls : Array Slot), va_P (dC, dI) vwCl (mw cI cJ cG cZ a fi_1 fl ai_1 al52) H → va_D A (mw cI cJ cG cZ a fi_1 fl ai_1 al52) → va_S A s.heap H locs → lv_has ls 9 [(0, .ref (a 0)), (2, .int p1), (4, .long v44), (6, .long x52_6), (8, .int x52_8)] → W p l e (headSpec ws_Mo_survey ({ frames := 5, cells := 0, slots := 0, locals := 117 })).room s m ([.ref (a 0), .int p0, .int p1, .int p2] : List Value).toArray below meth c H locs 0 0 (MQ below (va_Ql (fun r (u : zw_Z) => (zw_k_fi_ai_alr fl K) r u.1 u.2.1 u.2.2.1 u.2.2.2) (fun u t => zw_E (dC, dI) vwCl [(cI, .int), (cJ, .long), (cG, .array .int), (cZ, .boolean)] A (mw cI cJ cG cZ a u.1 u.2.1 u.2.2.1 u.2.2.2) t) A) ([.ref (a 0), .int p0, .int p1, .int p2] : List Value).toArray s 0 0 A) (F0 m 52 ls [])) hw (fun L52 x52_6 x52_8 al52 ih52 hw H locs ls hP hD hS hl => ?_)) H locs ls hP hD hS (lv_sub hl [3, 5, 2, 1, 0] rfl)
        refine lv_iload hx hb d_Mo_survey_52 (lv_at hl 4 rfl) ?_
        refine lv_aload_n hx hb d_Mo_survey_54 rfl (lv_at hl 0 rfl) ?_
        refine va_get (D := (dC, dI)) (ci := 7) (v := .int (fi_1 3)) (C := R_Mo) (T := T_Mo) (N := 36) hx hb ht in_Mo hown hK hP 0 rfl rfl 16 (by decide) (ht _ kw_629) (fun _ h9 => h9) rfl d_Mo_survey_55 ?_
        refine lv_icmp_ge (tgt := 159) hx hb d_Mo_survey_58 (by decide) (fun c58 => ?_) (fun c58 => ?_)
        · have hw := zw_ite_t c58 hw
          refine lv_lload hx hb d_Mo_survey_159 (lv_at hl 2 rfl) ?_
          exact W.lret (v := v44) hx hb hr (fun t ht hW => ⟨⟨v44, (fi_1, fl, ai_1, al52), rfl, ⟨rfl, hw⟩, by rw [ht]; exact hP, va_K.moved hW.alike hK, hD⟩, hS.F ht⟩) hS.2.2 d_Mo_survey_161
        · have hw := zw_ite_f c58 hw
          refine lv_aload_n hx hb d_Mo_survey_61 rfl (lv_at hl 0 rfl) ?_
          refine va_get (D := (dC, dI)) (ci := 7) (v := .ref (a 10)) (C := R_Mo) (T := T_Mo) (N := 36) hx hb ht in_Mo hown hK hP 0 rfl rfl 12 (by decide) (ht _ kw_625) (fun _ h9 => h9) rfl d_Mo_survey_62 ?_
          refine lv_iload hx hb d_Mo_survey_65 (lv_at hl 4 rfl) ?_
          obtain ⟨h67, hw⟩ := hw
          refine va_iald (f := ai_1 10) hx hb hK hP 10 0 rfl rfl h67 d_Mo_survey_67 ?_
          refine zw_jn2_i (P := fun (x153_6 : Int64) (al153 : Nat → Nat → Int64) => ∀ (H : Heap) (locs : List Loc) (ls : Array Slot), va_P (dC, dI) vwCl (mw cI cJ cG cZ a fi_1 fl ai_1 al153) H → va_D A (mw cI cJ cG cZ a fi_1 fl ai_1 al153) → va_S A s.heap H locs → lv_has ls 9 [(0, .ref (a 0)), (2, .int p1), (4, .long v44), (6, .long x153_6), (8, .int x52_8)] → W p l e (headSpec ws_Mo_survey ({ frames := 5, cells := 0, slots := 0, locals := 117 })).room s m ([.ref (a 0), .int p0, .int p1, .int p2] : List Value).toArray below meth c H locs 0 0 (MQ below (va_Ql (fun r (u : zw_Z) => (zw_k_fi_ai_alr fl K) r u.1 u.2.1 u.2.2.1 u.2.2.2) (fun u t => zw_E (dC, dI) vwCl [(cI, .int), (cJ, .long), (cG, .array .int), (cZ, .boolean)] A (mw cI cJ cG cZ a u.1 u.2.1 u.2.2.1 u.2.2.2) t) A) ([.ref (a 0), .int p0, .int p1, .int p2] : List Value).toArray s 0 0 A) (F0 m 153 ls [])) hw (fun x153_6 al153 hw H locs ls hP hD hS hl => ?_) (fun J153 hj153 hw => ?_)
          · obtain ⟨v153, ev153⟩ : ∃ y : Int32, y = x52_8 + (1 : Int32) := ⟨_, rfl⟩
            refine lv_iinc (v := v153) (lv' := [(8, .int v153), (0, .ref (a 0)), (2, .int p1), (4, .long v44), (6, .long x153_6)]) hx hb d_Mo_survey_153 hl (k := 4) rfl (by rw [ev153]; rfl) (by decide) rfl (fun ls hl => ?_)
            have hw := zw_nm_x ev153 hw
            refine lv_goto (tgt := 52) hx hb d_Mo_survey_156 (by decide) ?_
            exact (ih52 x153_6 v153 al153 hw) H locs ls hP hD hS (lv_sub hl [1, 2, 3, 4, 0] rfl)
          · refine lv_if_ne (tgt := 153) hx hb d_Mo_survey_68 (by decide) (fun c68 => ?_) (fun c68 => ?_)
            · have hw := zw_ite_f c68 hw
              exact (hj153 x52_6 al52 hw) H locs ls hP hD hS (lv_sub hl [0, 1, 2, 3, 4] rfl)
            · have hw := zw_ite_t c68 hw
              refine lv_aload_n hx hb d_Mo_survey_71 rfl (lv_at hl 0 rfl) ?_
              refine va_get (D := (dC, dI)) (ci := 7) (v := .ref (a 13)) (C := R_Mo) (T := T_Mo) (N := 36) hx hb ht in_Mo hown hK hP 0 rfl rfl 15 (by decide) (ht _ kw_628) (fun _ h9 => h9) rfl d_Mo_survey_72 ?_
              refine lv_iload hx hb d_Mo_survey_75 (lv_at hl 4 rfl) ?_
              obtain ⟨h77, hw⟩ := hw
              refine va_iald (f := ai_1 13) hx hb hK hP 13 0 rfl rfl h77 d_Mo_survey_77 ?_
              refine lv_iload_n hx hb d_Mo_survey_78 rfl (lv_at hl 1 rfl) ?_
              refine lv_icmp_le (tgt := 153) hx hb d_Mo_survey_79 (by decide) (fun c79 => ?_) (fun c79 => ?_)
              · have hw := zw_ite_t c79 hw
                exact (hj153 x52_6 al52 hw) H locs ls hP hD hS (lv_sub hl [0, 1, 2, 3, 4] rfl)
              · have hw := zw_ite_f c79 hw
                refine lv_lload hx hb d_Mo_survey_82 (lv_at hl 3 rfl) ?_
                refine lv_ldc2 (v := (1000000000 : Int64)) hx hb hown (hts (.constantLong R_Mo 185 (1000000000 : Int64)) (by decide +kernel)) d_Mo_survey_84 ?_
                refine lv_aload_n hx hb d_Mo_survey_87 rfl (lv_at hl 0 rfl) ?_
                refine va_get (D := (dC, dI)) (ci := 7) (v := .int (fi_1 5)) (C := R_Mo) (T := T_Mo) (N := 36) hx hb ht in_Mo hown hK hP 0 rfl rfl 19 (by decide) (ht _ kw_632) (fun _ h9 => h9) rfl d_Mo_survey_88 ?_
                refine lv_i2l hx hb d_Mo_survey_91 rfl ?_
                refine lv_lmul hx hb d_Mo_survey_92 ?_
                refine lv_ladd hx hb d_Mo_survey_93 ?_
                refine lv_topl (fun v94 ev94 => ?_)
                have hw := zw_nm_x ev94 hw
                refine lv_lstore (lv' := [(6, .long v94), (0, .ref (a 0)), (2, .int p1), (4, .long v44), (8, .int x52_8)]) hx hb d_Mo_survey_94 hl (by decide) rfl (fun ls hl => ?_)
                refine lv_aload_n hx hb d_Mo_survey_96 rfl (lv_at hl 1 rfl) ?_
                refine va_get (D := (dC, dI)) (ci := 7) (v := .ref (a 14)) (C := R_Mo) (T := T_Mo) (N := 36) hx hb ht in_Mo hown hK hP 0 rfl rfl 17 (by decide) (ht _ kw_630) (fun _ h9 => h9) rfl d_Mo_survey_97 ?_
                refine lv_aload_n hx hb d_Mo_survey_100 rfl (lv_at hl 1 rfl) ?_
                refine va_get (D := (dC, dI)) (ci := 7) (v := .ref (a 11)) (C := R_Mo) (T := T_Mo) (N := 36) hx hb ht in_Mo hown hK hP 0 rfl rfl 13 (by decide) (ht _ kw_626) (fun _ h9 => h9) rfl d_Mo_survey_101 ?_
                refine lv_iload hx hb d_Mo_survey_104 (lv_at hl 4 rfl) ?_
                obtain ⟨h106, hw⟩ := hw
                refine va_iald (f := ai_1 11) hx hb hK hP 11 0 rfl rfl h106 d_Mo_survey_106 ?_
                refine lv_lload hx hb d_Mo_survey_107 (lv_at hl 3 rfl) ?_
                refine lv_lconst (v := (0 : Int64)) hx hb d_Mo_survey_109 (by decide) ?_
                refine zw_jn1_i (P := fun (y152_0 : Int64) => ∀ (H : Heap) (locs : List Loc) (ls : Array Slot), va_P (dC, dI) vwCl (mw cI cJ cG cZ a fi_1 fl ai_1 al52) H → va_D A (mw cI cJ cG cZ a fi_1 fl ai_1 al52) → va_S A s.heap H locs → lv_has ls 9 [(0, .ref (a 0)), (2, .int p1), (4, .long v44), (6, .long v94), (8, .int x52_8)] → W p l e (headSpec ws_Mo_survey ({ frames := 5, cells := 0, slots := 0, locals := 117 })).room s m ([.ref (a 0), .int p0, .int p1, .int p2] : List Value).toArray below meth c H locs 0 0 (MQ below (va_Ql (fun r (u : zw_Z) => (zw_k_fi_ai_alr fl K) r u.1 u.2.1 u.2.2.1 u.2.2.2) (fun u t => zw_E (dC, dI) vwCl [(cI, .int), (cJ, .long), (cG, .array .int), (cZ, .boolean)] A (mw cI cJ cG cZ a u.1 u.2.1 u.2.2.1 u.2.2.2) t) A) ([.ref (a 0), .int p0, .int p1, .int p2] : List Value).toArray s 0 0 A) (F0 m 152 ls [.long y152_0, .int (ai_1 11 x52_8.toNatClampNeg), .ref (a 14)])) hw (fun y152_0 hw H locs ls hP hD hS hl => ?_) (fun J152 hj152 hw => ?_)
                · obtain ⟨h152, hw⟩ := hw
                  refine va_last (f := al52 14) hx hb hK hP hD hS 14 1 rfl rfl h152 d_Mo_survey_152 (fun H locs hP hD hS => ?_)
                  have hP := mwpal_14 hP
                  have hD := mwdal_14 hD
                  obtain ⟨al_152, eal_152⟩ : ∃ z, z = va_up al52 14 (vp_updL (al52 14) (ai_1 11 x52_8.toNatClampNeg).toNatClampNeg y152_0) := ⟨_, rfl⟩
                  rw [← eal_152] at hP hD
                  have hw := zw_nm_x eal_152 hw
                  exact (hj153 v94 al_152 hw) H locs ls hP hD hS (lv_sub hl [0, 1, 2, 3, 4] rfl)
                · refine W.lcmp hx hb d_Mo_survey_110 ?_
                  refine lv_if_le (tgt := 134) hx hb d_Mo_survey_111 (by decide) (fun c111 => ?_) (fun c111 => ?_)
                  · have hw := zw_ite_t (zw_lg_le.mp c111) hw
                    refine lv_lload hx hb d_Mo_survey_134 (lv_at hl 3 rfl) ?_
                    refine lv_lload hx hb d_Mo_survey_136 (lv_at hl 0 rfl) ?_
                    refine lv_lneg hx hb d_Mo_survey_138 ?_
                    refine W.lcmp hx hb d_Mo_survey_139 ?_
                    refine lv_if_ge (tgt := 151) hx hb d_Mo_survey_140 (by decide) (fun c140 => ?_) (fun c140 => ?_)
                    · have hw := zw_ite_t (zw_lg_ge.mp c140) hw
                      refine lv_lconst (v := (0 : Int64)) hx hb d_Mo_survey_151 (by decide) ?_
                      exact (hj152 (0 : Int64) hw) H locs ls hP hD hS (lv_sub hl [1, 2, 3, 0, 4] rfl)
                    · have hw := zw_ite_f (mt zw_lg_ge.mpr c140) hw
                      refine lv_lload hx hb d_Mo_survey_143 (lv_at hl 3 rfl) ?_
                      refine lv_lload hx hb d_Mo_survey_145 (lv_at hl 0 rfl) ?_
                      refine lv_ladd hx hb d_Mo_survey_147 ?_
                      refine lv_goto (tgt := 152) hx hb d_Mo_survey_148 (by decide) ?_
                      exact (hj152 (v44 + v94) hw) H locs ls hP hD hS (lv_sub hl [1, 2, 3, 0, 4] rfl)
                  · have hw := zw_ite_f (mt zw_lg_le.mpr c111) hw
                    refine lv_lload hx hb d_Mo_survey_114 (lv_at hl 3 rfl) ?_
                    refine lv_lload hx hb d_Mo_survey_116 (lv_at hl 0 rfl) ?_
                    refine W.lcmp hx hb d_Mo_survey_118 ?_
                    refine lv_if_le (tgt := 130) hx hb d_Mo_survey_119 (by decide) (fun c119 => ?_) (fun c119 => ?_)
                    · have hw := zw_ite_t (zw_lg_le.mp c119) hw
                      refine lv_lconst (v := (0 : Int64)) hx hb d_Mo_survey_130 (by decide) ?_
                      refine lv_goto (tgt := 152) hx hb d_Mo_survey_131 (by decide) ?_
                      exact (hj152 (0 : Int64) hw) H locs ls hP hD hS (lv_sub hl [1, 2, 3, 0, 4] rfl)
                    · have hw := zw_ite_f (mt zw_lg_le.mpr c119) hw
                      refine lv_lload hx hb d_Mo_survey_122 (lv_at hl 3 rfl) ?_
                      refine lv_lload hx hb d_Mo_survey_124 (lv_at hl 0 rfl) ?_
                      refine lv_lsub hx hb d_Mo_survey_126 ?_
                      refine lv_goto (tgt := 152) hx hb d_Mo_survey_127 (by decide) ?_
                      exact (hj152 (v44 - v94) hw) H locs ls hP hD hS (lv_sub hl [1, 2, 3, 0, 4] rfl)
      · have hw := zw_ite_t c24 hw
        refine lv_ldc2 (v := (-1000000000000000000 : Int64)) hx hb hown (hts (.constantLong R_Mo 148 (-1000000000000000000 : Int64)) (by decide +kernel)) d_Mo_survey_27 ?_
        exact W.lret (v := (-1000000000000000000 : Int64)) hx hb hr (fun t ht hW => ⟨⟨(-1000000000000000000 : Int64), (fi_1, fl, ai_1, al_1), rfl, ⟨rfl, hw⟩, by rw [ht]; exact hP, va_K.moved hW.alike hK, hD⟩, hS.F ht⟩) hS.2.2 d_Mo_survey_30
  rw [hH, hlo] at key
  exact key
def Mo_most_w (fi : Nat → Int32) (fl : Nat → Int64) (ai : Nat → Nat → Int32) (al : Nat → Nat → Int64) (p0 : Int32) (K : Int32 → (Nat → Int32) → Prop) : Prop :=
  Mo_in_w p0.toInt64 (0 : Int64) (1000 : Int64) (fun (r6 : Int32) =>
  if r6 = 0 then (
    K (0 : Int32) fi)
  else (
    zw_nm (va_up fi 5 p0) (fun (fi_16 : Nat → Int32) =>
    K (1 : Int32) fi_16)))
theorem d_Mo_most_0 : decode b_Mo_most 0 = .ok (.iload_n 1, 1) := by decide +kernel
theorem d_Mo_most_1 : decode b_Mo_most 1 = .ok (.i2l, 1) := by decide +kernel
theorem d_Mo_most_2 : decode b_Mo_most 2 = .ok (.lconst 0, 1) := by decide +kernel
theorem d_Mo_most_3 : decode b_Mo_most 3 = .ok (.ldc2_w 114, 3) := by decide +kernel
theorem d_Mo_most_6 : decode b_Mo_most 6 = .ok (.invokestatic 103, 3) := by decide +kernel
theorem d_Mo_most_9 : decode b_Mo_most 9 = .ok (.ifCond .ne (5), 3) := by decide +kernel
theorem d_Mo_most_12 : decode b_Mo_most 12 = .ok (.iconst 0, 1) := by decide +kernel
theorem d_Mo_most_13 : decode b_Mo_most 13 = .ok (.ireturn, 1) := by decide +kernel
theorem d_Mo_most_14 : decode b_Mo_most 14 = .ok (.aload_n 0, 1) := by decide +kernel
theorem d_Mo_most_15 : decode b_Mo_most 15 = .ok (.iload_n 1, 1) := by decide +kernel
theorem d_Mo_most_16 : decode b_Mo_most 16 = .ok (.putfield 58, 3) := by decide +kernel
theorem d_Mo_most_19 : decode b_Mo_most 19 = .ok (.iconst 1, 1) := by decide +kernel
theorem d_Mo_most_20 : decode b_Mo_most 20 = .ok (.ireturn, 1) := by decide +kernel
set_option maxHeartbeats 4000000 in
set_option maxRecDepth 100000 in
theorem c_Mo_most (l : Launch) (dC : Nat → ClassId) (dI : Nat → Nat → Nat) (cI cJ cG cZ : ClassId) (a : Nat → Nat) (sz : Nat) (fi : Nat → Int32) (fl : Nat → Int64) (ai : Nat → Nat → Int32) (al : Nat → Nat → Int64) (p0 : Int32) (K : Int32 → (Nat → Int32) → Prop) (hw : Mo_most_w fi fl ai al p0 K) : Met l y_Mo_most ws_Mo_most ({ frames := 1, cells := 0, slots := 0, locals := 25 }) (va_Pc [.ref (a 0), .int p0] (zw_Bw (dC, dI) vwCl [(cI, .int), (cJ, .long), (cG, .array .int), (cZ, .boolean)] (mw cI cJ cG cZ a fi fl ai al) sz)) (va_Qi (fun r (u : zw_Z) => (zw_k_fir fl ai al K) r u.1 u.2.1 u.2.2.1 u.2.2.2) (fun u t => zw_E (dC, dI) vwCl [(cI, .int), (cJ, .long), (cG, .array .int), (cZ, .boolean)] (va_A (mw cI cJ cG cZ a fi fl ai al) sz) (mw cI cJ cG cZ a u.1 u.2.1 u.2.2.1 u.2.2.2) t) (va_A (mw cI cJ cG cZ a fi fl ai al) sz)) 0 0 (va_A (mw cI cJ cG cZ a fi fl ai al) sz) := by
  refine Met.ofW (cc := b_Mo_most) (maxL := 2) (ret := (Option.some FieldType.boolean)) (by decide) rfl ?_
  intro p e s m args below meth c s₁ B hml hv
  obtain ⟨rfl, hsz, hP, hK, hD0, hN⟩ := hv
  have hx := B.exec
  have hb := B.bytes
  have hr := B.returns
  have hts := atoms_spec (ws := ws_Mo_most) B.pre
  have ht : ∀ w ∈ zw_tbl, w.before _ s = true := fun w h => hts w (List.mem_cons_of_mem _ h)
  have hown : s.vm.findClass R_Mo = some m.cls := findClass_of_methodNamed B.named
  have hlocks := B.notSynchronized
  subst hsz
  have hD := hD0.self (sz := s.heap.size)
  generalize hAe : va_A (mw cI cJ cG cZ a fi fl ai al) s.heap.size = A at hD ⊢
  have hA : ∀ q : Nat, s.heap.size ≤ q → A q := fun q h => by rw [← hAe]; exact Or.inr h
  have hS : va_S A s.heap s.heap [] := va_S.rf
  have hl := lv_entry ([.ref (a 0), .int p0] : List Value) (n := 2) (Nat.le_of_ble_eq_true rfl)
  rw [lg_entry_eq]
  generalize (lg_sl ([.ref (a 0), .int p0] : List Value) ++ List.replicate (2 - (lg_sl ([.ref (a 0), .int p0] : List Value)).length) Slot.unset).toArray = ls at hl ⊢
  have hl : lv_has ls 2 [(0, .ref (a 0)), (1, .int p0)] := hl
  unfold Mo_most_w at hw
  obtain ⟨H, hH⟩ : ∃ H, H = s.heap := ⟨_, rfl⟩
  obtain ⟨locs, hlo⟩ : ∃ q : List Loc, q = [] := ⟨_, rfl⟩
  have hP : va_P (dC, dI) vwCl (mw cI cJ cG cZ a fi fl ai al) H := by rw [hH]; exact hP
  have hS : va_S A s.heap H locs := by rw [hH, hlo]; exact hS
  have key : W p l e (headSpec ws_Mo_most ({ frames := 1, cells := 0, slots := 0, locals := 25 })).room s m ([.ref (a 0), .int p0] : List Value).toArray below meth c H locs 0 0 (MQ below (va_Qi (fun r (u : zw_Z) => (zw_k_fir fl ai al K) r u.1 u.2.1 u.2.2.1 u.2.2.2) (fun u t => zw_E (dC, dI) vwCl [(cI, .int), (cJ, .long), (cG, .array .int), (cZ, .boolean)] A (mw cI cJ cG cZ a u.1 u.2.1 u.2.2.1 u.2.2.2) t) A) ([.ref (a 0), .int p0] : List Value).toArray s 0 0 A) (F0 m 0 ls []) := by
    refine lv_iload_n hx hb d_Mo_most_0 rfl (lv_at hl 1 rfl) ?_
    refine lv_i2l hx hb d_Mo_most_1 rfl ?_
    refine lv_lconst (v := (0 : Int64)) hx hb d_Mo_most_2 (by decide) ?_
    refine lv_ldc2 (v := (1000 : Int64)) hx hb hown (hts (.constantLong R_Mo 114 (1000 : Int64)) (by decide +kernel)) d_Mo_most_3 ?_
    refine vp_callSi (va_Run.run (va_runS (As := [.long p0.toInt64, .long (0 : Int64), .long (1000 : Int64)]) (rest := []) ⟨hx, hb, hml, hown, hts⟩ (c_Mo_in l p0.toInt64 (0 : Int64) (1000 : Int64) _ hw) (va_cwS 3 hts (zw_goodS kw_731 kw_732 kw_9 kw_733) rfl rfl rfl hd_Mo_in.2 ⟨Nat.le_of_ble_eq_true rfl, Nat.le_of_ble_eq_true rfl⟩) zw_preS0 rfl rfl hl.1 rfl (lv_room (Nat.le_of_ble_eq_true rfl)) d_Mo_most_6 ⟨Nat.le_of_ble_eq_true rfl, Nat.le_of_ble_eq_true rfl⟩)) (fun r6 hw => ?_)
    refine lv_if_ne (tgt := 14) hx hb d_Mo_most_9 (by decide) (fun c9 => ?_) (fun c9 => ?_)
    · have hw := zw_ite_f c9 hw
      refine lv_aload_n hx hb d_Mo_most_14 rfl (lv_at hl 0 rfl) ?_
      refine lv_iload_n hx hb d_Mo_most_15 rfl (lv_at hl 1 rfl) ?_
      refine va_put (D := (dC, dI)) (ci := 7) (v := .int p0) (ty := .int) (C := R_Mo) (T := T_Mo) (N := 36) hx hb ht in_Mo t_Mo t_Mo_ok n_Mo hown hK hP hD hS 0 rfl rfl 19 (by decide) (ht _ kw_632) (fun _ h9 => h9) rfl (by decide +kernel) rfl rfl (Nat.le_of_ble_eq_true rfl) d_Mo_most_16 (fun H locs hP hD hS => ?_)
      have hP := mwpfi_5 hP
      have hD := mwdfi_5 hD
      obtain ⟨fi_16, efi_16⟩ : ∃ z, z = va_up fi 5 p0 := ⟨_, rfl⟩
      rw [← efi_16] at hP hD
      have hw := zw_nm_x efi_16 hw
      refine lv_iconst (v := (1 : Int32)) hx hb d_Mo_most_19 (by decide) ?_
      exact W.zret (v := (1 : Int32)) (ty := .boolean) hx hb hr rfl (fun t ht hW => ⟨⟨(1 : Int32), (fi_16, fl, ai, al), rfl, ⟨rfl, rfl, rfl, hw⟩, by rw [ht]; exact hP, va_K.moved hW.alike hK, hD⟩, hS.F ht⟩) hS.2.2 d_Mo_most_20
    · have hw := zw_ite_t c9 hw
      refine lv_iconst (v := (0 : Int32)) hx hb d_Mo_most_12 (by decide) ?_
      exact W.zret (v := (0 : Int32)) (ty := .boolean) hx hb hr rfl (fun t ht hW => ⟨⟨(0 : Int32), (fi, fl, ai, al), rfl, ⟨rfl, rfl, rfl, hw⟩, by rw [ht]; exact hP, va_K.moved hW.alike hK, hD⟩, hS.F ht⟩) hS.2.2 d_Mo_most_13
  rw [hH, hlo] at key
  exact key
def Mo_rule_w (fi : Nat → Int32) (fl : Nat → Int64) (ai : Nat → Nat → Int32) (al : Nat → Nat → Int64) (p0 : Int32) (p1 : Int32) (p2 : Int32) (p3 : Int32) (K : Int64 → (Nat → Int32) → (Nat → Nat → Int32) → Prop) : Prop :=
  zw_jn1 (fun (y55_0 : Int32) =>
  if y55_0 = 0 then (
    K (-1000000000000000000 : Int64) fi ai)
  else (
    if p3 < p2 then (
      K (-1000000000000000000 : Int64) fi ai)
    else (
      if (fi 6) = (8 : Int32) then (
        K (-1000000000000000000 : Int64) fi ai)
      else (
        vp_in (fi 6) 8 ∧ (zw_nm (va_up ai 15 (upd (ai 15) (fi 6).toNatClampNeg p0)) (fun (ai_90 : Nat → Nat → Int32) =>
        vp_in (fi 6) 8 ∧ (zw_nm (va_up ai_90 16 (upd (ai_90 16) (fi 6).toNatClampNeg p1)) (fun (ai_100 : Nat → Nat → Int32) =>
        vp_in (fi 6) 8 ∧ (zw_nm (va_up ai_100 17 (upd (ai_100 17) (fi 6).toNatClampNeg p2)) (fun (ai_110 : Nat → Nat → Int32) =>
        vp_in (fi 6) 8 ∧ (zw_nm (va_up ai_110 18 (upd (ai_110 18) (fi 6).toNatClampNeg p3)) (fun (ai_121 : Nat → Nat → Int32) =>
        zw_nm (va_up fi 6 ((fi 6) + (1 : Int32))) (fun (fi_129 : Nat → Int32) =>
        K (((fi_129 6) - (1 : Int32)).toInt64) fi_129 ai_121))))))))))))) (fun J55 =>
  zw_jn0 (
  J55 (1 : Int32)) (fun J50 =>
  zw_jn0 (
  zw_jn0 (
  zw_jn0 (
  J55 (0 : Int32)) (fun J54 =>
  if p0 = (2 : Int32) then (
    Mo_in_w p1.toInt64 (0 : Int64) (2 : Int64) (fun (r44 : Int32) =>
    if r44 = 0 then (
      J54)
    else (
      J50)))
  else (
    J54))) (fun J33 =>
  if p0 = (1 : Int32) then (
    Mo_in_w p1.toInt64 (0 : Int64) (((fi 0) - (2 : Int32)).toInt64) (fun (r27 : Int32) =>
    if r27 = 0 then (
      J33)
    else (
      J50)))
  else (
    J33))) (fun J12 =>
  if p0 = 0 then (
    Mo_isPart_w fi fl ai al p1 (fun (r6 : Int32) =>
    if r6 = 0 then (
      J12)
    else (
      J50)))
  else (
    J12))))
theorem d_Mo_rule_0 : decode b_Mo_rule 0 = .ok (.iload_n 1, 1) := by decide +kernel
theorem d_Mo_rule_1 : decode b_Mo_rule 1 = .ok (.ifCond .ne (11), 3) := by decide +kernel
theorem d_Mo_rule_4 : decode b_Mo_rule 4 = .ok (.aload_n 0, 1) := by decide +kernel
theorem d_Mo_rule_5 : decode b_Mo_rule 5 = .ok (.iload_n 2, 1) := by decide +kernel
theorem d_Mo_rule_6 : decode b_Mo_rule 6 = .ok (.invokevirtual 110, 3) := by decide +kernel
theorem d_Mo_rule_9 : decode b_Mo_rule 9 = .ok (.ifCond .ne (41), 3) := by decide +kernel
theorem d_Mo_rule_12 : decode b_Mo_rule 12 = .ok (.iload_n 1, 1) := by decide +kernel
theorem d_Mo_rule_13 : decode b_Mo_rule 13 = .ok (.iconst 1, 1) := by decide +kernel
theorem d_Mo_rule_14 : decode b_Mo_rule 14 = .ok (.if_icmp .ne (19), 3) := by decide +kernel
theorem d_Mo_rule_17 : decode b_Mo_rule 17 = .ok (.iload_n 2, 1) := by decide +kernel
theorem d_Mo_rule_18 : decode b_Mo_rule 18 = .ok (.i2l, 1) := by decide +kernel
theorem d_Mo_rule_19 : decode b_Mo_rule 19 = .ok (.lconst 0, 1) := by decide +kernel
theorem d_Mo_rule_20 : decode b_Mo_rule 20 = .ok (.aload_n 0, 1) := by decide +kernel
theorem d_Mo_rule_21 : decode b_Mo_rule 21 = .ok (.getfield 100, 3) := by decide +kernel
theorem d_Mo_rule_24 : decode b_Mo_rule 24 = .ok (.iconst 2, 1) := by decide +kernel
theorem d_Mo_rule_25 : decode b_Mo_rule 25 = .ok (.isub, 1) := by decide +kernel
theorem d_Mo_rule_26 : decode b_Mo_rule 26 = .ok (.i2l, 1) := by decide +kernel
theorem d_Mo_rule_27 : decode b_Mo_rule 27 = .ok (.invokestatic 103, 3) := by decide +kernel
theorem d_Mo_rule_30 : decode b_Mo_rule 30 = .ok (.ifCond .ne (20), 3) := by decide +kernel
theorem d_Mo_rule_33 : decode b_Mo_rule 33 = .ok (.iload_n 1, 1) := by decide +kernel
theorem d_Mo_rule_34 : decode b_Mo_rule 34 = .ok (.iconst 2, 1) := by decide +kernel
theorem d_Mo_rule_35 : decode b_Mo_rule 35 = .ok (.if_icmp .ne (19), 3) := by decide +kernel
theorem d_Mo_rule_38 : decode b_Mo_rule 38 = .ok (.iload_n 2, 1) := by decide +kernel
theorem d_Mo_rule_39 : decode b_Mo_rule 39 = .ok (.i2l, 1) := by decide +kernel
theorem d_Mo_rule_40 : decode b_Mo_rule 40 = .ok (.lconst 0, 1) := by decide +kernel
theorem d_Mo_rule_41 : decode b_Mo_rule 41 = .ok (.ldc2_w 124, 3) := by decide +kernel
theorem d_Mo_rule_44 : decode b_Mo_rule 44 = .ok (.invokestatic 103, 3) := by decide +kernel
theorem d_Mo_rule_47 : decode b_Mo_rule 47 = .ok (.ifCond .eq (7), 3) := by decide +kernel
theorem d_Mo_rule_50 : decode b_Mo_rule 50 = .ok (.iconst 1, 1) := by decide +kernel
theorem d_Mo_rule_51 : decode b_Mo_rule 51 = .ok (.goto (4), 3) := by decide +kernel
theorem d_Mo_rule_54 : decode b_Mo_rule 54 = .ok (.iconst 0, 1) := by decide +kernel
theorem d_Mo_rule_55 : decode b_Mo_rule 55 = .ok (.istore 5, 2) := by decide +kernel
theorem d_Mo_rule_57 : decode b_Mo_rule 57 = .ok (.iload 5, 2) := by decide +kernel
theorem d_Mo_rule_59 : decode b_Mo_rule 59 = .ok (.ifCond .eq (18), 3) := by decide +kernel
theorem d_Mo_rule_62 : decode b_Mo_rule 62 = .ok (.iload_n 3, 1) := by decide +kernel
theorem d_Mo_rule_63 : decode b_Mo_rule 63 = .ok (.iload 4, 2) := by decide +kernel
theorem d_Mo_rule_65 : decode b_Mo_rule 65 = .ok (.if_icmp .gt (12), 3) := by decide +kernel
theorem d_Mo_rule_68 : decode b_Mo_rule 68 = .ok (.aload_n 0, 1) := by decide +kernel
theorem d_Mo_rule_69 : decode b_Mo_rule 69 = .ok (.getfield 222, 3) := by decide +kernel
theorem d_Mo_rule_72 : decode b_Mo_rule 72 = .ok (.bipush (8), 2) := by decide +kernel
theorem d_Mo_rule_74 : decode b_Mo_rule 74 = .ok (.if_icmp .ne (7), 3) := by decide +kernel
theorem d_Mo_rule_77 : decode b_Mo_rule 77 = .ok (.ldc2_w 148, 3) := by decide +kernel
theorem d_Mo_rule_80 : decode b_Mo_rule 80 = .ok (.lreturn, 1) := by decide +kernel
theorem d_Mo_rule_81 : decode b_Mo_rule 81 = .ok (.aload_n 0, 1) := by decide +kernel
theorem d_Mo_rule_82 : decode b_Mo_rule 82 = .ok (.getfield 61, 3) := by decide +kernel
theorem d_Mo_rule_85 : decode b_Mo_rule 85 = .ok (.aload_n 0, 1) := by decide +kernel
theorem d_Mo_rule_86 : decode b_Mo_rule 86 = .ok (.getfield 222, 3) := by decide +kernel
theorem d_Mo_rule_89 : decode b_Mo_rule 89 = .ok (.iload_n 1, 1) := by decide +kernel
theorem d_Mo_rule_90 : decode b_Mo_rule 90 = .ok (.iastore, 1) := by decide +kernel
theorem d_Mo_rule_91 : decode b_Mo_rule 91 = .ok (.aload_n 0, 1) := by decide +kernel
theorem d_Mo_rule_92 : decode b_Mo_rule 92 = .ok (.getfield 64, 3) := by decide +kernel
theorem d_Mo_rule_95 : decode b_Mo_rule 95 = .ok (.aload_n 0, 1) := by decide +kernel
theorem d_Mo_rule_96 : decode b_Mo_rule 96 = .ok (.getfield 222, 3) := by decide +kernel
theorem d_Mo_rule_99 : decode b_Mo_rule 99 = .ok (.iload_n 2, 1) := by decide +kernel
theorem d_Mo_rule_100 : decode b_Mo_rule 100 = .ok (.iastore, 1) := by decide +kernel
theorem d_Mo_rule_101 : decode b_Mo_rule 101 = .ok (.aload_n 0, 1) := by decide +kernel
theorem d_Mo_rule_102 : decode b_Mo_rule 102 = .ok (.getfield 67, 3) := by decide +kernel
theorem d_Mo_rule_105 : decode b_Mo_rule 105 = .ok (.aload_n 0, 1) := by decide +kernel
theorem d_Mo_rule_106 : decode b_Mo_rule 106 = .ok (.getfield 222, 3) := by decide +kernel
theorem d_Mo_rule_109 : decode b_Mo_rule 109 = .ok (.iload_n 3, 1) := by decide +kernel
theorem d_Mo_rule_110 : decode b_Mo_rule 110 = .ok (.iastore, 1) := by decide +kernel
theorem d_Mo_rule_111 : decode b_Mo_rule 111 = .ok (.aload_n 0, 1) := by decide +kernel
theorem d_Mo_rule_112 : decode b_Mo_rule 112 = .ok (.getfield 70, 3) := by decide +kernel
theorem d_Mo_rule_115 : decode b_Mo_rule 115 = .ok (.aload_n 0, 1) := by decide +kernel
theorem d_Mo_rule_116 : decode b_Mo_rule 116 = .ok (.getfield 222, 3) := by decide +kernel
theorem d_Mo_rule_119 : decode b_Mo_rule 119 = .ok (.iload 4, 2) := by decide +kernel
theorem d_Mo_rule_121 : decode b_Mo_rule 121 = .ok (.iastore, 1) := by decide +kernel
theorem d_Mo_rule_122 : decode b_Mo_rule 122 = .ok (.aload_n 0, 1) := by decide +kernel
theorem d_Mo_rule_123 : decode b_Mo_rule 123 = .ok (.dup, 1) := by decide +kernel
theorem d_Mo_rule_124 : decode b_Mo_rule 124 = .ok (.getfield 222, 3) := by decide +kernel
theorem d_Mo_rule_127 : decode b_Mo_rule 127 = .ok (.iconst 1, 1) := by decide +kernel
theorem d_Mo_rule_128 : decode b_Mo_rule 128 = .ok (.iadd, 1) := by decide +kernel
theorem d_Mo_rule_129 : decode b_Mo_rule 129 = .ok (.putfield 222, 3) := by decide +kernel
theorem d_Mo_rule_132 : decode b_Mo_rule 132 = .ok (.aload_n 0, 1) := by decide +kernel
theorem d_Mo_rule_133 : decode b_Mo_rule 133 = .ok (.getfield 222, 3) := by decide +kernel
theorem d_Mo_rule_136 : decode b_Mo_rule 136 = .ok (.iconst 1, 1) := by decide +kernel
theorem d_Mo_rule_137 : decode b_Mo_rule 137 = .ok (.isub, 1) := by decide +kernel
theorem d_Mo_rule_138 : decode b_Mo_rule 138 = .ok (.i2l, 1) := by decide +kernel
theorem d_Mo_rule_139 : decode b_Mo_rule 139 = .ok (.lreturn, 1) := by decide +kernel
set_option maxHeartbeats 4000000 in
set_option maxRecDepth 100000 in
theorem c_Mo_rule (l : Launch) (dC : Nat → ClassId) (dI : Nat → Nat → Nat) (cI cJ cG cZ : ClassId) (a : Nat → Nat) (sz : Nat) (fi : Nat → Int32) (fl : Nat → Int64) (ai : Nat → Nat → Int32) (al : Nat → Nat → Int64) (p0 : Int32) (p1 : Int32) (p2 : Int32) (p3 : Int32) (K : Int64 → (Nat → Int32) → (Nat → Nat → Int32) → Prop) (hw : Mo_rule_w fi fl ai al p0 p1 p2 p3 K) : Met l y_Mo_rule ws_Mo_rule ({ frames := 2, cells := 0, slots := 0, locals := 46 }) (va_Pc [.ref (a 0), .int p0, .int p1, .int p2, .int p3] (zw_Bw (dC, dI) vwCl [(cI, .int), (cJ, .long), (cG, .array .int), (cZ, .boolean)] (mw cI cJ cG cZ a fi fl ai al) sz)) (va_Ql (fun r (u : zw_Z) => (zw_k_fi_air fl al K) r u.1 u.2.1 u.2.2.1 u.2.2.2) (fun u t => zw_E (dC, dI) vwCl [(cI, .int), (cJ, .long), (cG, .array .int), (cZ, .boolean)] (va_A (mw cI cJ cG cZ a fi fl ai al) sz) (mw cI cJ cG cZ a u.1 u.2.1 u.2.2.1 u.2.2.2) t) (va_A (mw cI cJ cG cZ a fi fl ai al) sz)) 0 0 (va_A (mw cI cJ cG cZ a fi fl ai al) sz) := by
  refine Met.ofW (cc := b_Mo_rule) (maxL := 6) (ret := (Option.some FieldType.long)) (by decide) rfl ?_
  intro p e s m args below meth c s₁ B hml hv
  obtain ⟨rfl, hsz, hP, hK, hD0, hN⟩ := hv
  have hx := B.exec
  have hb := B.bytes
  have hr := B.returns
  have hts := atoms_spec (ws := ws_Mo_rule) B.pre
  have ht : ∀ w ∈ zw_tbl, w.before _ s = true := fun w h => hts w (List.mem_cons_of_mem _ h)
  have hown : s.vm.findClass R_Mo = some m.cls := findClass_of_methodNamed B.named
  have hlocks := B.notSynchronized
  subst hsz
  have hD := hD0.self (sz := s.heap.size)
  generalize hAe : va_A (mw cI cJ cG cZ a fi fl ai al) s.heap.size = A at hD ⊢
  have hA : ∀ q : Nat, s.heap.size ≤ q → A q := fun q h => by rw [← hAe]; exact Or.inr h
  have hS : va_S A s.heap s.heap [] := va_S.rf
  have hl := lv_entry ([.ref (a 0), .int p0, .int p1, .int p2, .int p3] : List Value) (n := 6) (Nat.le_of_ble_eq_true rfl)
  rw [lg_entry_eq]
  generalize (lg_sl ([.ref (a 0), .int p0, .int p1, .int p2, .int p3] : List Value) ++ List.replicate (6 - (lg_sl ([.ref (a 0), .int p0, .int p1, .int p2, .int p3] : List Value)).length) Slot.unset).toArray = ls at hl ⊢
  have hl : lv_has ls 6 [(0, .ref (a 0)), (1, .int p0), (2, .int p1), (3, .int p2), (4, .int p3)] := hl
  unfold Mo_rule_w at hw
  obtain ⟨H, hH⟩ : ∃ H, H = s.heap := ⟨_, rfl⟩
  obtain ⟨locs, hlo⟩ : ∃ q : List Loc, q = [] := ⟨_, rfl⟩
  have hP : va_P (dC, dI) vwCl (mw cI cJ cG cZ a fi fl ai al) H := by rw [hH]; exact hP
  have hS : va_S A s.heap H locs := by rw [hH, hlo]; exact hS
  have key : W p l e (headSpec ws_Mo_rule ({ frames := 2, cells := 0, slots := 0, locals := 46 })).room s m ([.ref (a 0), .int p0, .int p1, .int p2, .int p3] : List Value).toArray below meth c H locs 0 0 (MQ below (va_Ql (fun r (u : zw_Z) => (zw_k_fi_air fl al K) r u.1 u.2.1 u.2.2.1 u.2.2.2) (fun u t => zw_E (dC, dI) vwCl [(cI, .int), (cJ, .long), (cG, .array .int), (cZ, .boolean)] A (mw cI cJ cG cZ a u.1 u.2.1 u.2.2.1 u.2.2.2) t) A) ([.ref (a 0), .int p0, .int p1, .int p2, .int p3] : List Value).toArray s 0 0 A) (F0 m 0 ls []) := by
    refine lv_iload_n hx hb d_Mo_rule_0 rfl (lv_at hl 1 rfl) ?_
    refine zw_jn1_i (P := fun (y55_0 : Int32) => ∀ (H : Heap) (locs : List Loc) (ls : Array Slot), va_P (dC, dI) vwCl (mw cI cJ cG cZ a fi fl ai al) H → va_D A (mw cI cJ cG cZ a fi fl ai al) → va_S A s.heap H locs → lv_has ls 6 [(0, .ref (a 0)), (1, .int p0), (2, .int p1), (3, .int p2), (4, .int p3)] → W p l e (headSpec ws_Mo_rule ({ frames := 2, cells := 0, slots := 0, locals := 46 })).room s m ([.ref (a 0), .int p0, .int p1, .int p2, .int p3] : List Value).toArray below meth c H locs 0 0 (MQ below (va_Ql (fun r (u : zw_Z) => (zw_k_fi_air fl al K) r u.1 u.2.1 u.2.2.1 u.2.2.2) (fun u t => zw_E (dC, dI) vwCl [(cI, .int), (cJ, .long), (cG, .array .int), (cZ, .boolean)] A (mw cI cJ cG cZ a u.1 u.2.1 u.2.2.1 u.2.2.2) t) A) ([.ref (a 0), .int p0, .int p1, .int p2, .int p3] : List Value).toArray s 0 0 A) (F0 m 55 ls [.int y55_0])) hw (fun y55_0 hw H locs ls hP hD hS hl => ?_) (fun J55 hj55 hw => ?_)
    · refine lv_istore (lv' := [(5, .int y55_0), (0, .ref (a 0)), (1, .int p0), (2, .int p1), (3, .int p2), (4, .int p3)]) hx hb d_Mo_rule_55 hl (by decide) rfl (fun ls hl => ?_)
      refine lv_iload hx hb d_Mo_rule_57 (lv_at hl 0 rfl) ?_
      refine lv_if_eq (tgt := 77) hx hb d_Mo_rule_59 (by decide) (fun c59 => ?_) (fun c59 => ?_)
      · have hw := zw_ite_t c59 hw
        refine lv_ldc2 (v := (-1000000000000000000 : Int64)) hx hb hown (hts (.constantLong R_Mo 148 (-1000000000000000000 : Int64)) (by decide +kernel)) d_Mo_rule_77 ?_
        exact W.lret (v := (-1000000000000000000 : Int64)) hx hb hr (fun t ht hW => ⟨⟨(-1000000000000000000 : Int64), (fi, fl, ai, al), rfl, ⟨rfl, rfl, hw⟩, by rw [ht]; exact hP, va_K.moved hW.alike hK, hD⟩, hS.F ht⟩) hS.2.2 d_Mo_rule_80
      · have hw := zw_ite_f c59 hw
        refine lv_iload_n hx hb d_Mo_rule_62 rfl (lv_at hl 4 rfl) ?_
        refine lv_iload hx hb d_Mo_rule_63 (lv_at hl 5 rfl) ?_
        refine lv_icmp_gt (tgt := 77) hx hb d_Mo_rule_65 (by decide) (fun c65 => ?_) (fun c65 => ?_)
        · have hw := zw_ite_t c65 hw
          refine lv_ldc2 (v := (-1000000000000000000 : Int64)) hx hb hown (hts (.constantLong R_Mo 148 (-1000000000000000000 : Int64)) (by decide +kernel)) d_Mo_rule_77 ?_
          exact W.lret (v := (-1000000000000000000 : Int64)) hx hb hr (fun t ht hW => ⟨⟨(-1000000000000000000 : Int64), (fi, fl, ai, al), rfl, ⟨rfl, rfl, hw⟩, by rw [ht]; exact hP, va_K.moved hW.alike hK, hD⟩, hS.F ht⟩) hS.2.2 d_Mo_rule_80
        · have hw := zw_ite_f c65 hw
          refine lv_aload_n hx hb d_Mo_rule_68 rfl (lv_at hl 1 rfl) ?_
          refine va_get (D := (dC, dI)) (ci := 7) (v := .int (fi 6)) (C := R_Mo) (T := T_Mo) (N := 36) hx hb ht in_Mo hown hK hP 0 rfl rfl 24 (by decide) (ht _ kw_637) (fun _ h9 => h9) rfl d_Mo_rule_69 ?_
          refine lv_bipush (v := (8 : Int32)) hx hb d_Mo_rule_72 (by decide) ?_
          refine lv_icmp_ne (tgt := 81) hx hb d_Mo_rule_74 (by decide) (fun c74 => ?_) (fun c74 => ?_)
          · have hw := zw_ite_f c74 hw
            refine lv_aload_n hx hb d_Mo_rule_81 rfl (lv_at hl 1 rfl) ?_
            refine va_get (D := (dC, dI)) (ci := 7) (v := .ref (a 15)) (C := R_Mo) (T := T_Mo) (N := 36) hx hb ht in_Mo hown hK hP 0 rfl rfl 20 (by decide) (ht _ kw_633) (fun _ h9 => h9) rfl d_Mo_rule_82 ?_
            refine lv_aload_n hx hb d_Mo_rule_85 rfl (lv_at hl 1 rfl) ?_
            refine va_get (D := (dC, dI)) (ci := 7) (v := .int (fi 6)) (C := R_Mo) (T := T_Mo) (N := 36) hx hb ht in_Mo hown hK hP 0 rfl rfl 24 (by decide) (ht _ kw_637) (fun _ h9 => h9) rfl d_Mo_rule_86 ?_
            refine lv_iload_n hx hb d_Mo_rule_89 rfl (lv_at hl 2 rfl) ?_
            obtain ⟨h90, hw⟩ := hw
            refine va_iast (f := ai 15) hx hb hK hP hD hS 15 0 rfl rfl h90 d_Mo_rule_90 (fun H locs hP hD hS => ?_)
            have hP := mwpai_15 hP
            have hD := mwdai_15 hD
            obtain ⟨ai_90, eai_90⟩ : ∃ z, z = va_up ai 15 (upd (ai 15) (fi 6).toNatClampNeg p0) := ⟨_, rfl⟩
            rw [← eai_90] at hP hD
            have hw := zw_nm_x eai_90 hw
            refine lv_aload_n hx hb d_Mo_rule_91 rfl (lv_at hl 1 rfl) ?_
            refine va_get (D := (dC, dI)) (ci := 7) (v := .ref (a 16)) (C := R_Mo) (T := T_Mo) (N := 36) hx hb ht in_Mo hown hK hP 0 rfl rfl 21 (by decide) (ht _ kw_634) (fun _ h9 => h9) rfl d_Mo_rule_92 ?_
            refine lv_aload_n hx hb d_Mo_rule_95 rfl (lv_at hl 1 rfl) ?_
            refine va_get (D := (dC, dI)) (ci := 7) (v := .int (fi 6)) (C := R_Mo) (T := T_Mo) (N := 36) hx hb ht in_Mo hown hK hP 0 rfl rfl 24 (by decide) (ht _ kw_637) (fun _ h9 => h9) rfl d_Mo_rule_96 ?_
            refine lv_iload_n hx hb d_Mo_rule_99 rfl (lv_at hl 3 rfl) ?_
            obtain ⟨h100, hw⟩ := hw
            refine va_iast (f := ai_90 16) hx hb hK hP hD hS 16 0 rfl rfl h100 d_Mo_rule_100 (fun H locs hP hD hS => ?_)
            have hP := mwpai_16 hP
            have hD := mwdai_16 hD
            obtain ⟨ai_100, eai_100⟩ : ∃ z, z = va_up ai_90 16 (upd (ai_90 16) (fi 6).toNatClampNeg p1) := ⟨_, rfl⟩
            rw [← eai_100] at hP hD
            have hw := zw_nm_x eai_100 hw
            refine lv_aload_n hx hb d_Mo_rule_101 rfl (lv_at hl 1 rfl) ?_
            refine va_get (D := (dC, dI)) (ci := 7) (v := .ref (a 17)) (C := R_Mo) (T := T_Mo) (N := 36) hx hb ht in_Mo hown hK hP 0 rfl rfl 22 (by decide) (ht _ kw_635) (fun _ h9 => h9) rfl d_Mo_rule_102 ?_
            refine lv_aload_n hx hb d_Mo_rule_105 rfl (lv_at hl 1 rfl) ?_
            refine va_get (D := (dC, dI)) (ci := 7) (v := .int (fi 6)) (C := R_Mo) (T := T_Mo) (N := 36) hx hb ht in_Mo hown hK hP 0 rfl rfl 24 (by decide) (ht _ kw_637) (fun _ h9 => h9) rfl d_Mo_rule_106 ?_
            refine lv_iload_n hx hb d_Mo_rule_109 rfl (lv_at hl 4 rfl) ?_
            obtain ⟨h110, hw⟩ := hw
            refine va_iast (f := ai_100 17) hx hb hK hP hD hS 17 0 rfl rfl h110 d_Mo_rule_110 (fun H locs hP hD hS => ?_)
            have hP := mwpai_17 hP
            have hD := mwdai_17 hD
            obtain ⟨ai_110, eai_110⟩ : ∃ z, z = va_up ai_100 17 (upd (ai_100 17) (fi 6).toNatClampNeg p2) := ⟨_, rfl⟩
            rw [← eai_110] at hP hD
            have hw := zw_nm_x eai_110 hw
            refine lv_aload_n hx hb d_Mo_rule_111 rfl (lv_at hl 1 rfl) ?_
            refine va_get (D := (dC, dI)) (ci := 7) (v := .ref (a 18)) (C := R_Mo) (T := T_Mo) (N := 36) hx hb ht in_Mo hown hK hP 0 rfl rfl 23 (by decide) (ht _ kw_636) (fun _ h9 => h9) rfl d_Mo_rule_112 ?_
            refine lv_aload_n hx hb d_Mo_rule_115 rfl (lv_at hl 1 rfl) ?_
            refine va_get (D := (dC, dI)) (ci := 7) (v := .int (fi 6)) (C := R_Mo) (T := T_Mo) (N := 36) hx hb ht in_Mo hown hK hP 0 rfl rfl 24 (by decide) (ht _ kw_637) (fun _ h9 => h9) rfl d_Mo_rule_116 ?_
            refine lv_iload hx hb d_Mo_rule_119 (lv_at hl 5 rfl) ?_
            obtain ⟨h121, hw⟩ := hw
            refine va_iast (f := ai_110 18) hx hb hK hP hD hS 18 0 rfl rfl h121 d_Mo_rule_121 (fun H locs hP hD hS => ?_)
            have hP := mwpai_18 hP
            have hD := mwdai_18 hD
            obtain ⟨ai_121, eai_121⟩ : ∃ z, z = va_up ai_110 18 (upd (ai_110 18) (fi 6).toNatClampNeg p3) := ⟨_, rfl⟩
            rw [← eai_121] at hP hD
            have hw := zw_nm_x eai_121 hw
            refine lv_aload_n hx hb d_Mo_rule_122 rfl (lv_at hl 1 rfl) ?_
            refine lv_dup hx hb d_Mo_rule_123 rfl ?_
            refine va_get (D := (dC, dI)) (ci := 7) (v := .int (fi 6)) (C := R_Mo) (T := T_Mo) (N := 36) hx hb ht in_Mo hown hK hP 0 rfl rfl 24 (by decide) (ht _ kw_637) (fun _ h9 => h9) rfl d_Mo_rule_124 ?_
            refine lv_iconst (v := (1 : Int32)) hx hb d_Mo_rule_127 (by decide) ?_
            refine lv_iadd hx hb d_Mo_rule_128 ?_
            refine va_put (D := (dC, dI)) (ci := 7) (v := .int ((fi 6) + (1 : Int32))) (ty := .int) (C := R_Mo) (T := T_Mo) (N := 36) hx hb ht in_Mo t_Mo t_Mo_ok n_Mo hown hK hP hD hS 0 rfl rfl 24 (by decide) (ht _ kw_637) (fun _ h9 => h9) rfl (by decide +kernel) rfl rfl (Nat.le_of_ble_eq_true rfl) d_Mo_rule_129 (fun H locs hP hD hS => ?_)
            have hP := mwpfi_6 hP
            have hD := mwdfi_6 hD
            obtain ⟨fi_129, efi_129⟩ : ∃ z, z = va_up fi 6 ((fi 6) + (1 : Int32)) := ⟨_, rfl⟩
            rw [← efi_129] at hP hD
            have hw := zw_nm_x efi_129 hw
            refine lv_aload_n hx hb d_Mo_rule_132 rfl (lv_at hl 1 rfl) ?_
            refine va_get (D := (dC, dI)) (ci := 7) (v := .int (fi_129 6)) (C := R_Mo) (T := T_Mo) (N := 36) hx hb ht in_Mo hown hK hP 0 rfl rfl 24 (by decide) (ht _ kw_637) (fun _ h9 => h9) rfl d_Mo_rule_133 ?_
            refine lv_iconst (v := (1 : Int32)) hx hb d_Mo_rule_136 (by decide) ?_
            refine lv_isub hx hb d_Mo_rule_137 ?_
            refine lv_i2l hx hb d_Mo_rule_138 rfl ?_
            exact W.lret (v := ((fi_129 6) - (1 : Int32)).toInt64) hx hb hr (fun t ht hW => ⟨⟨((fi_129 6) - (1 : Int32)).toInt64, (fi_129, fl, ai_121, al), rfl, ⟨rfl, rfl, hw⟩, by rw [ht]; exact hP, va_K.moved hW.alike hK, hD⟩, hS.F ht⟩) hS.2.2 d_Mo_rule_139
          · have hw := zw_ite_t c74 hw
            refine lv_ldc2 (v := (-1000000000000000000 : Int64)) hx hb hown (hts (.constantLong R_Mo 148 (-1000000000000000000 : Int64)) (by decide +kernel)) d_Mo_rule_77 ?_
            exact W.lret (v := (-1000000000000000000 : Int64)) hx hb hr (fun t ht hW => ⟨⟨(-1000000000000000000 : Int64), (fi, fl, ai, al), rfl, ⟨rfl, rfl, hw⟩, by rw [ht]; exact hP, va_K.moved hW.alike hK, hD⟩, hS.F ht⟩) hS.2.2 d_Mo_rule_80
    · refine zw_jn0_i (P := ∀ (H : Heap) (locs : List Loc) (ls : Array Slot), va_P (dC, dI) vwCl (mw cI cJ cG cZ a fi fl ai al) H → va_D A (mw cI cJ cG cZ a fi fl ai al) → va_S A s.heap H locs → lv_has ls 6 [(0, .ref (a 0)), (1, .int p0), (2, .int p1), (3, .int p2), (4, .int p3)] → W p l e (headSpec ws_Mo_rule ({ frames := 2, cells := 0, slots := 0, locals := 46 })).room s m ([.ref (a 0), .int p0, .int p1, .int p2, .int p3] : List Value).toArray below meth c H locs 0 0 (MQ below (va_Ql (fun r (u : zw_Z) => (zw_k_fi_air fl al K) r u.1 u.2.1 u.2.2.1 u.2.2.2) (fun u t => zw_E (dC, dI) vwCl [(cI, .int), (cJ, .long), (cG, .array .int), (cZ, .boolean)] A (mw cI cJ cG cZ a u.1 u.2.1 u.2.2.1 u.2.2.2) t) A) ([.ref (a 0), .int p0, .int p1, .int p2, .int p3] : List Value).toArray s 0 0 A) (F0 m 50 ls [])) hw (fun hw H locs ls hP hD hS hl => ?_) (fun J50 hj50 hw => ?_)
      · refine lv_iconst (v := (1 : Int32)) hx hb d_Mo_rule_50 (by decide) ?_
        refine lv_goto (tgt := 55) hx hb d_Mo_rule_51 (by decide) ?_
        exact (hj55 (1 : Int32) hw) H locs ls hP hD hS (lv_sub hl [0, 1, 2, 3, 4] rfl)
      · refine zw_jn0_i (P := ∀ (H : Heap) (locs : List Loc) (ls : Array Slot), va_P (dC, dI) vwCl (mw cI cJ cG cZ a fi fl ai al) H → va_D A (mw cI cJ cG cZ a fi fl ai al) → va_S A s.heap H locs → lv_has ls 6 [(0, .ref (a 0)), (1, .int p0), (2, .int p1), (3, .int p2), (4, .int p3)] → W p l e (headSpec ws_Mo_rule ({ frames := 2, cells := 0, slots := 0, locals := 46 })).room s m ([.ref (a 0), .int p0, .int p1, .int p2, .int p3] : List Value).toArray below meth c H locs 0 0 (MQ below (va_Ql (fun r (u : zw_Z) => (zw_k_fi_air fl al K) r u.1 u.2.1 u.2.2.1 u.2.2.2) (fun u t => zw_E (dC, dI) vwCl [(cI, .int), (cJ, .long), (cG, .array .int), (cZ, .boolean)] A (mw cI cJ cG cZ a u.1 u.2.1 u.2.2.1 u.2.2.2) t) A) ([.ref (a 0), .int p0, .int p1, .int p2, .int p3] : List Value).toArray s 0 0 A) (F0 m 12 ls [])) hw (fun hw H locs ls hP hD hS hl => ?_) (fun J12 hj12 hw => ?_)
        · refine lv_iload_n hx hb d_Mo_rule_12 rfl (lv_at hl 1 rfl) ?_
          refine lv_iconst (v := (1 : Int32)) hx hb d_Mo_rule_13 (by decide) ?_
          refine zw_jn0_i (P := ∀ (H : Heap) (locs : List Loc) (ls : Array Slot), va_P (dC, dI) vwCl (mw cI cJ cG cZ a fi fl ai al) H → va_D A (mw cI cJ cG cZ a fi fl ai al) → va_S A s.heap H locs → lv_has ls 6 [(0, .ref (a 0)), (1, .int p0), (2, .int p1), (3, .int p2), (4, .int p3)] → W p l e (headSpec ws_Mo_rule ({ frames := 2, cells := 0, slots := 0, locals := 46 })).room s m ([.ref (a 0), .int p0, .int p1, .int p2, .int p3] : List Value).toArray below meth c H locs 0 0 (MQ below (va_Ql (fun r (u : zw_Z) => (zw_k_fi_air fl al K) r u.1 u.2.1 u.2.2.1 u.2.2.2) (fun u t => zw_E (dC, dI) vwCl [(cI, .int), (cJ, .long), (cG, .array .int), (cZ, .boolean)] A (mw cI cJ cG cZ a u.1 u.2.1 u.2.2.1 u.2.2.2) t) A) ([.ref (a 0), .int p0, .int p1, .int p2, .int p3] : List Value).toArray s 0 0 A) (F0 m 33 ls [])) hw (fun hw H locs ls hP hD hS hl => ?_) (fun J33 hj33 hw => ?_)
          · refine lv_iload_n hx hb d_Mo_rule_33 rfl (lv_at hl 1 rfl) ?_
            refine lv_iconst (v := (2 : Int32)) hx hb d_Mo_rule_34 (by decide) ?_
            refine zw_jn0_i (P := ∀ (H : Heap) (locs : List Loc) (ls : Array Slot), va_P (dC, dI) vwCl (mw cI cJ cG cZ a fi fl ai al) H → va_D A (mw cI cJ cG cZ a fi fl ai al) → va_S A s.heap H locs → lv_has ls 6 [(0, .ref (a 0)), (1, .int p0), (2, .int p1), (3, .int p2), (4, .int p3)] → W p l e (headSpec ws_Mo_rule ({ frames := 2, cells := 0, slots := 0, locals := 46 })).room s m ([.ref (a 0), .int p0, .int p1, .int p2, .int p3] : List Value).toArray below meth c H locs 0 0 (MQ below (va_Ql (fun r (u : zw_Z) => (zw_k_fi_air fl al K) r u.1 u.2.1 u.2.2.1 u.2.2.2) (fun u t => zw_E (dC, dI) vwCl [(cI, .int), (cJ, .long), (cG, .array .int), (cZ, .boolean)] A (mw cI cJ cG cZ a u.1 u.2.1 u.2.2.1 u.2.2.2) t) A) ([.ref (a 0), .int p0, .int p1, .int p2, .int p3] : List Value).toArray s 0 0 A) (F0 m 54 ls [])) hw (fun hw H locs ls hP hD hS hl => ?_) (fun J54 hj54 hw => ?_)
            · refine lv_iconst (v := (0 : Int32)) hx hb d_Mo_rule_54 (by decide) ?_
              exact (hj55 (0 : Int32) hw) H locs ls hP hD hS (lv_sub hl [0, 1, 2, 3, 4] rfl)
            · refine lv_icmp_ne (tgt := 54) hx hb d_Mo_rule_35 (by decide) (fun c35 => ?_) (fun c35 => ?_)
              · have hw := zw_ite_f c35 hw
                exact (hj54  hw) H locs ls hP hD hS (lv_sub hl [0, 1, 2, 3, 4] rfl)
              · have hw := zw_ite_t c35 hw
                refine lv_iload_n hx hb d_Mo_rule_38 rfl (lv_at hl 2 rfl) ?_
                refine lv_i2l hx hb d_Mo_rule_39 rfl ?_
                refine lv_lconst (v := (0 : Int64)) hx hb d_Mo_rule_40 (by decide) ?_
                refine lv_ldc2 (v := (2 : Int64)) hx hb hown (hts (.constantLong R_Mo 124 (2 : Int64)) (by decide +kernel)) d_Mo_rule_41 ?_
                refine vp_callSi (va_Run.run (va_runS (As := [.long p1.toInt64, .long (0 : Int64), .long (2 : Int64)]) (rest := []) ⟨hx, hb, hml, hown, hts⟩ (c_Mo_in l p1.toInt64 (0 : Int64) (2 : Int64) _ hw) (va_cwS 3 hts (zw_goodS kw_731 kw_732 kw_9 kw_733) rfl rfl rfl hd_Mo_in.2 ⟨Nat.le_of_ble_eq_true rfl, Nat.le_of_ble_eq_true rfl⟩) zw_preS0 rfl rfl hl.1 rfl (lv_room (Nat.le_of_ble_eq_true rfl)) d_Mo_rule_44 ⟨Nat.le_of_ble_eq_true rfl, Nat.le_of_ble_eq_true rfl⟩)) (fun r44 hw => ?_)
                refine lv_if_eq (tgt := 54) hx hb d_Mo_rule_47 (by decide) (fun c47 => ?_) (fun c47 => ?_)
                · have hw := zw_ite_t c47 hw
                  exact (hj54  hw) H locs ls hP hD hS (lv_sub hl [0, 1, 2, 3, 4] rfl)
                · have hw := zw_ite_f c47 hw
                  exact (hj50  hw) H locs ls hP hD hS (lv_sub hl [0, 1, 2, 3, 4] rfl)
          · refine lv_icmp_ne (tgt := 33) hx hb d_Mo_rule_14 (by decide) (fun c14 => ?_) (fun c14 => ?_)
            · have hw := zw_ite_f c14 hw
              exact (hj33  hw) H locs ls hP hD hS (lv_sub hl [0, 1, 2, 3, 4] rfl)
            · have hw := zw_ite_t c14 hw
              refine lv_iload_n hx hb d_Mo_rule_17 rfl (lv_at hl 2 rfl) ?_
              refine lv_i2l hx hb d_Mo_rule_18 rfl ?_
              refine lv_lconst (v := (0 : Int64)) hx hb d_Mo_rule_19 (by decide) ?_
              refine lv_aload_n hx hb d_Mo_rule_20 rfl (lv_at hl 0 rfl) ?_
              refine va_get (D := (dC, dI)) (ci := 7) (v := .int (fi 0)) (C := R_Mo) (T := T_Mo) (N := 36) hx hb ht in_Mo hown hK hP 0 rfl rfl 0 (by decide) (ht _ kw_613) (fun _ h9 => h9) rfl d_Mo_rule_21 ?_
              refine lv_iconst (v := (2 : Int32)) hx hb d_Mo_rule_24 (by decide) ?_
              refine lv_isub hx hb d_Mo_rule_25 ?_
              refine lv_i2l hx hb d_Mo_rule_26 rfl ?_
              refine vp_callSi (va_Run.run (va_runS (As := [.long p1.toInt64, .long (0 : Int64), .long ((fi 0) - (2 : Int32)).toInt64]) (rest := []) ⟨hx, hb, hml, hown, hts⟩ (c_Mo_in l p1.toInt64 (0 : Int64) (((fi 0) - (2 : Int32)).toInt64) _ hw) (va_cwS 3 hts (zw_goodS kw_731 kw_732 kw_9 kw_733) rfl rfl rfl hd_Mo_in.2 ⟨Nat.le_of_ble_eq_true rfl, Nat.le_of_ble_eq_true rfl⟩) zw_preS0 rfl rfl hl.1 rfl (lv_room (Nat.le_of_ble_eq_true rfl)) d_Mo_rule_27 ⟨Nat.le_of_ble_eq_true rfl, Nat.le_of_ble_eq_true rfl⟩)) (fun r27 hw => ?_)
              refine lv_if_ne (tgt := 50) hx hb d_Mo_rule_30 (by decide) (fun c30 => ?_) (fun c30 => ?_)
              · have hw := zw_ite_f c30 hw
                exact (hj50  hw) H locs ls hP hD hS (lv_sub hl [0, 1, 2, 3, 4] rfl)
              · have hw := zw_ite_t c30 hw
                exact (hj33  hw) H locs ls hP hD hS (lv_sub hl [0, 1, 2, 3, 4] rfl)
        · refine lv_if_ne (tgt := 12) hx hb d_Mo_rule_1 (by decide) (fun c1 => ?_) (fun c1 => ?_)
          · have hw := zw_ite_f c1 hw
            exact (hj12  hw) H locs ls hP hD hS (lv_sub hl [0, 1, 2, 3, 4] rfl)
          · have hw := zw_ite_t c1 hw
            refine lv_aload_n hx hb d_Mo_rule_4 rfl (lv_at hl 0 rfl) ?_
            refine lv_iload_n hx hb d_Mo_rule_5 rfl (lv_at hl 2 rfl) ?_
            refine vp_callSi (va_Run.run (va_runV (As := [.int p1]) (rest := []) ⟨hx, hb, hml, hown, hts⟩ (c_Mo_isPart l dC dI cI cJ cG cZ a fi fl ai al p1 _ hw) (cwV 1 hts (zw_goodV kw_727 kw_729 kw_s16 kw_9 kw_730) rfl rfl rfl hd_Mo_isPart ⟨Nat.le_of_ble_eq_true rfl, Nat.le_of_ble_eq_true rfl⟩) (zw_preV (ci := 7) (q0 := 0) hK hN hP rfl rfl) rfl rfl hl.1 rfl (lv_room (Nat.le_of_ble_eq_true rfl)) d_Mo_rule_6 ⟨Nat.le_of_ble_eq_true rfl, Nat.le_of_ble_eq_true rfl⟩)) (fun r6 hw => ?_)
            refine lv_if_ne (tgt := 50) hx hb d_Mo_rule_9 (by decide) (fun c9 => ?_) (fun c9 => ?_)
            · have hw := zw_ite_f c9 hw
              exact (hj50  hw) H locs ls hP hD hS (lv_sub hl [0, 1, 2, 3, 4] rfl)
            · have hw := zw_ite_t c9 hw
              exact (hj12  hw) H locs ls hP hD hS (lv_sub hl [0, 1, 2, 3, 4] rfl)
  rw [hH, hlo] at key
  exact key
