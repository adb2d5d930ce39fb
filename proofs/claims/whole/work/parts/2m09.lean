def Mo_greatest_w (fi : Nat → Int32) (fl : Nat → Int64) (ai : Nat → Nat → Int32) (al : Nat → Nat → Int64) (K : Int64 → (Nat → Nat → Int32) → (Nat → Nat → Int64) → Prop) : Prop :=
  Mo_pass_w fi fl ai al  (fun (ai_1 : Nat → Nat → Int32) (al_1 : Nat → Nat → Int64) =>
  zw_nm (0 : Int64) (fun (v5 : Int64) =>
  zw_nm (0 : Int32) (fun (v7 : Int32) =>
  zw_lp2 (fun L8 (x8_1 : Int64) (x8_3 : Int32) =>
  if (fi 8) ≤ x8_3 then (
    K x8_1 ai_1 al_1)
  else (
    vp_in x8_3 6 ∧ (
    Mo_camber_w fi fl ai_1 al_1 (ai_1 20 x8_3.toNatClampNeg) (fun (r23 : Int64) =>
    zw_jn1 (fun (y43_0 : Int64) =>
    zw_jn1 (fun (y58_0 : Int64) =>
    zw_nm (x8_3 + (1 : Int32)) (fun (v59 : Int32) =>
    L8 y58_0 v59)) (fun J58 =>
    if y43_0 ≤ x8_1 then (
      J58 x8_1)
    else (
      J58 y43_0))) (fun J43 =>
    if (0 : Int64) ≤ r23 then (
      J43 r23)
    else (
      J43 (-r23))))))) v5 v7)))
theorem d_Mo_greatest_0 : decode b_Mo_greatest 0 = .ok (.aload_n 0, 1) := by decide +kernel
theorem d_Mo_greatest_1 : decode b_Mo_greatest 1 = .ok (.invokevirtual 194, 3) := by decide +kernel
theorem d_Mo_greatest_4 : decode b_Mo_greatest 4 = .ok (.lconst 0, 1) := by decide +kernel
theorem d_Mo_greatest_5 : decode b_Mo_greatest 5 = .ok (.lstore_n 1, 1) := by decide +kernel
theorem d_Mo_greatest_6 : decode b_Mo_greatest 6 = .ok (.iconst 0, 1) := by decide +kernel
theorem d_Mo_greatest_7 : decode b_Mo_greatest 7 = .ok (.istore_n 3, 1) := by decide +kernel
theorem d_Mo_greatest_8 : decode b_Mo_greatest 8 = .ok (.iload_n 3, 1) := by decide +kernel
theorem d_Mo_greatest_9 : decode b_Mo_greatest 9 = .ok (.aload_n 0, 1) := by decide +kernel
theorem d_Mo_greatest_10 : decode b_Mo_greatest 10 = .ok (.getfield 165, 3) := by decide +kernel
theorem d_Mo_greatest_13 : decode b_Mo_greatest 13 = .ok (.if_icmp .ge (52), 3) := by decide +kernel
theorem d_Mo_greatest_16 : decode b_Mo_greatest 16 = .ok (.aload_n 0, 1) := by decide +kernel
theorem d_Mo_greatest_17 : decode b_Mo_greatest 17 = .ok (.aload_n 0, 1) := by decide +kernel
theorem d_Mo_greatest_18 : decode b_Mo_greatest 18 = .ok (.getfield 76, 3) := by decide +kernel
theorem d_Mo_greatest_21 : decode b_Mo_greatest 21 = .ok (.iload_n 3, 1) := by decide +kernel
theorem d_Mo_greatest_22 : decode b_Mo_greatest 22 = .ok (.iaload, 1) := by decide +kernel
theorem d_Mo_greatest_23 : decode b_Mo_greatest 23 = .ok (.invokevirtual 187, 3) := by decide +kernel
theorem d_Mo_greatest_26 : decode b_Mo_greatest 26 = .ok (.lstore 4, 2) := by decide +kernel
theorem d_Mo_greatest_28 : decode b_Mo_greatest 28 = .ok (.lload 4, 2) := by decide +kernel
theorem d_Mo_greatest_30 : decode b_Mo_greatest 30 = .ok (.lconst 0, 1) := by decide +kernel
theorem d_Mo_greatest_31 : decode b_Mo_greatest 31 = .ok (.lcmp, 1) := by decide +kernel
theorem d_Mo_greatest_32 : decode b_Mo_greatest 32 = .ok (.ifCond .ge (9), 3) := by decide +kernel
theorem d_Mo_greatest_35 : decode b_Mo_greatest 35 = .ok (.lload 4, 2) := by decide +kernel
theorem d_Mo_greatest_37 : decode b_Mo_greatest 37 = .ok (.lneg, 1) := by decide +kernel
theorem d_Mo_greatest_38 : decode b_Mo_greatest 38 = .ok (.goto (5), 3) := by decide +kernel
theorem d_Mo_greatest_41 : decode b_Mo_greatest 41 = .ok (.lload 4, 2) := by decide +kernel
theorem d_Mo_greatest_43 : decode b_Mo_greatest 43 = .ok (.lstore 6, 2) := by decide +kernel
theorem d_Mo_greatest_45 : decode b_Mo_greatest 45 = .ok (.lload 6, 2) := by decide +kernel
theorem d_Mo_greatest_47 : decode b_Mo_greatest 47 = .ok (.lload_n 1, 1) := by decide +kernel
theorem d_Mo_greatest_48 : decode b_Mo_greatest 48 = .ok (.lcmp, 1) := by decide +kernel
theorem d_Mo_greatest_49 : decode b_Mo_greatest 49 = .ok (.ifCond .le (8), 3) := by decide +kernel
theorem d_Mo_greatest_52 : decode b_Mo_greatest 52 = .ok (.lload 6, 2) := by decide +kernel
theorem d_Mo_greatest_54 : decode b_Mo_greatest 54 = .ok (.goto (4), 3) := by decide +kernel
theorem d_Mo_greatest_57 : decode b_Mo_greatest 57 = .ok (.lload_n 1, 1) := by decide +kernel
theorem d_Mo_greatest_58 : decode b_Mo_greatest 58 = .ok (.lstore_n 1, 1) := by decide +kernel
theorem d_Mo_greatest_59 : decode b_Mo_greatest 59 = .ok (.iinc 3 (1), 3) := by decide +kernel
theorem d_Mo_greatest_62 : decode b_Mo_greatest 62 = .ok (.goto (-54), 3) := by decide +kernel
theorem d_Mo_greatest_65 : decode b_Mo_greatest 65 = .ok (.lload_n 1, 1) := by decide +kernel
theorem d_Mo_greatest_66 : decode b_Mo_greatest 66 = .ok (.lreturn, 1) := by decide +kernel
set_option maxHeartbeats 4000000 in
set_option maxRecDepth 100000 in
theorem c_Mo_greatest (l : Launch) (dC : Nat → ClassId) (dI : Nat → Nat → Nat) (cI cJ cG cZ : ClassId) (a : Nat → Nat) (sz : Nat) (fi : Nat → Int32) (fl : Nat → Int64) (ai : Nat → Nat → Int32) (al : Nat → Nat → Int64) (K : Int64 → (Nat → Nat → Int32) → (Nat → Nat → Int64) → Prop) (hw : Mo_greatest_w fi fl ai al K) : Met l y_Mo_greatest ws_Mo_greatest ({ frames := 3, cells := 0, slots := 0, locals := 74 }) (va_Pc [.ref (a 0)] (zw_Bw (dC, dI) vwCl [(cI, .int), (cJ, .long), (cG, .array .int), (cZ, .boolean)] (mw cI cJ cG cZ a fi fl ai al) sz)) (va_Ql (fun r (u : zw_Z) => (zw_k_ai_alr fi fl K) r u.1 u.2.1 u.2.2.1 u.2.2.2) (fun u t => zw_E (dC, dI) vwCl [(cI, .int), (cJ, .long), (cG, .array .int), (cZ, .boolean)] (va_A (mw cI cJ cG cZ a fi fl ai al) sz) (mw cI cJ cG cZ a u.1 u.2.1 u.2.2.1 u.2.2.2) t) (va_A (mw cI cJ cG cZ a fi fl ai al) sz)) 0 0 (va_A (mw cI cJ cG cZ a fi fl ai al) sz) := by
  refine Met.ofW (cc := b_Mo_greatest) (maxL := 8) (ret := (Option.some FieldType.long)) (by decide) rfl ?_
  intro p e s m args below meth c s₁ B hml hv
  obtain ⟨rfl, hsz, hP, hK, hD0, hN⟩ := hv
  have hx := B.exec
  have hb := B.bytes
  have hr := B.returns
  have hts := atoms_spec (ws := ws_Mo_greatest) B.pre
  have ht : ∀ w ∈ zw_tbl, w.before _ s = true := fun w h => hts w (List.mem_cons_of_mem _ h)
  have hown : s.vm.findClass R_Mo = some m.cls := findClass_of_methodNamed B.named
  have hlocks := B.notSynchronized
  subst hsz
  have hD := hD0.self (sz := s.heap.size)
  generalize hAe : va_A (mw cI cJ cG cZ a fi fl ai al) s.heap.size = A at hD ⊢
  have hA : ∀ q : Nat, s.heap.size ≤ q → A q := fun q h => by rw [← hAe]; exact Or.inr h
  have hS : va_S A s.heap s.heap [] := va_S.rf
  have hl := lv_entry ([.ref (a 0)] : List Value) (n := 8) (Nat.le_of_ble_eq_true rfl)
  rw [lg_entry_eq]
  generalize (lg_sl ([.ref (a 0)] : List Value) ++ List.replicate (8 - (lg_sl ([.ref (a 0)] : List Value)).length) Slot.unset).toArray = ls at hl ⊢
  have hl : lv_has ls 8 [(0, .ref (a 0))] := hl
  unfold Mo_greatest_w at hw
  obtain ⟨H, hH⟩ : ∃ H, H = s.heap := ⟨_, rfl⟩
  obtain ⟨locs, hlo⟩ : ∃ q : List Loc, q = [] := ⟨_, rfl⟩
  have hP : va_P (dC, dI) vwCl (mw cI cJ cG cZ a fi fl ai al) H := by rw [hH]; exact hP
  have hS : va_S A s.heap H locs := by rw [hH, hlo]; exact hS
  have key : W p l e (headSpec ws_Mo_greatest ({ frames := 3, cells := 0, slots := 0, locals := 74 })).room s m ([.ref (a 0)] : List Value).toArray below meth c H locs 0 0 (MQ below (va_Ql (fun r (u : zw_Z) => (zw_k_ai_alr fi fl K) r u.1 u.2.1 u.2.2.1 u.2.2.2) (fun u t => zw_E (dC, dI) vwCl [(cI, .int), (cJ, .long), (cG, .array .int), (cZ, .boolean)] A (mw cI cJ cG cZ a u.1 u.2.1 u.2.2.1 u.2.2.2) t) A) ([.ref (a 0)] : List Value).toArray s 0 0 A) (F0 m 0 ls []) := by
    refine lv_aload_n hx hb d_Mo_greatest_0 rfl (lv_at hl 0 rfl) ?_
    refine zw_cv (va_runV (As := []) (rest := []) ⟨hx, hb, hml, hown, hts⟩ (c_Mo_pass l dC dI cI cJ cG cZ a H.size fi fl ai al _ hw) (cwV 0 hts (zw_goodV kw_824 kw_826 kw_s26 kw_9 kw_827) rfl rfl rfl hd_Mo_pass ⟨Nat.le_of_ble_eq_true rfl, Nat.le_of_ble_eq_true rfl⟩) (zw_preVw (ci := 7) (q0 := 0) hK hN hP hD rfl rfl) rfl rfl hl.1 rfl (lv_room (Nat.le_of_ble_eq_true rfl)) d_Mo_greatest_1 ⟨Nat.le_of_ble_eq_true rfl, Nat.le_of_ble_eq_true rfl⟩) hD hS hA (fun fi_1 fl_1 ai_1 al_1 H locs hw hP hD hS => ?_)
    obtain ⟨rfl, rfl, hw⟩ := hw
    refine lv_lconst (v := (0 : Int64)) hx hb d_Mo_greatest_4 (by decide) ?_
    refine lv_topl (fun v5 ev5 => ?_)
    have hw := zw_nm_x ev5 hw
    refine lv_lstore_n (lv' := [(1, .long v5), (0, .ref (a 0))]) hx hb d_Mo_greatest_5 rfl hl (by decide) rfl (fun ls hl => ?_)
    refine lv_iconst (v := (0 : Int32)) hx hb d_Mo_greatest_6 (by decide) ?_
    refine lv_topi (fun v7 ev7 => ?_)
    have hw := zw_nm_x ev7 hw
    refine lv_istore_n (lv' := [(3, .int v7), (1, .long v5), (0, .ref (a 0))]) hx hb d_Mo_greatest_7 rfl hl (by decide) rfl (fun ls hl => ?_)
    refine (zw_lp2_i (P := fun (x8_1 : Int64) (x8_3 : Int32) => ∀ (H : Heap) (locs : List Loc) (ls : Array Slot), va_P (dC, dI) vwCl (mw cI cJ cG cZ a fi fl ai_1 al_1) H → va_D A (mw cI cJ cG cZ a fi fl ai_1 al_1) → va_S A s.heap H locs → lv_has ls 8 [(0, .ref (a 0)), (1, .long x8_1), (3, .int x8_3)] → W p l e (headSpec ws_Mo_greatest ({ frames := 3, cells := 0, slots := 0, locals := 74 })).room s m ([.ref (a 0)] : List Value).toArray below meth c H locs 0 0 (MQ below (va_Ql (fun r (u : zw_Z) => (zw_k_ai_alr fi fl K) r u.1 u.2.1 u.2.2.1 u.2.2.2) (fun u t => zw_E (dC, dI) vwCl [(cI, .int), (cJ, .long), (cG, .array .int), (cZ, .boolean)] A (mw cI cJ cG cZ a u.1 u.2.1 u.2.2.1 u.2.2.2) t) A) ([.ref (a 0)] : List Value).toArray s 0 0 A) (F0 m 8 ls [])) hw (fun L8 x8_1 x8_3 ih8 hw H locs ls hP hD hS hl => ?_)) H locs ls hP hD hS (lv_sub hl [2, 1, 0] rfl)
    refine lv_iload_n hx hb d_Mo_greatest_8 rfl (lv_at hl 2 rfl) ?_
    refine lv_aload_n hx hb d_Mo_greatest_9 rfl (lv_at hl 0 rfl) ?_
    refine va_get (D := (dC, dI)) (ci := 7) (v := .int (fi 8)) (C := R_Mo) (T := T_Mo) (N := 36) hx hb ht in_Mo hown hK hP 0 rfl rfl 28 (by decide) (ht _ kw_641) (fun _ h9 => h9) rfl d_Mo_greatest_10 ?_
    refine lv_icmp_ge (tgt := 65) hx hb d_Mo_greatest_13 (by decide) (fun c13 => ?_) (fun c13 => ?_)
    · have hw := zw_ite_t c13 hw
      refine lv_lload_n hx hb d_Mo_greatest_65 rfl (lv_at hl 1 rfl) ?_
      exact W.lret (v := x8_1) hx hb hr (fun t ht hW => ⟨⟨x8_1, (fi, fl, ai_1, al_1), rfl, ⟨rfl, rfl, hw⟩, by rw [ht]; exact hP, va_K.moved hW.alike hK, hD⟩, hS.F ht⟩) hS.2.2 d_Mo_greatest_66
    · have hw := zw_ite_f c13 hw
      refine lv_aload_n hx hb d_Mo_greatest_16 rfl (lv_at hl 0 rfl) ?_
      refine lv_aload_n hx hb d_Mo_greatest_17 rfl (lv_at hl 0 rfl) ?_
      refine va_get (D := (dC, dI)) (ci := 7) (v := .ref (a 20)) (C := R_Mo) (T := T_Mo) (N := 36) hx hb ht in_Mo hown hK hP 0 rfl rfl 27 (by decide) (ht _ kw_640) (fun _ h9 => h9) rfl d_Mo_greatest_18 ?_
      refine lv_iload_n hx hb d_Mo_greatest_21 rfl (lv_at hl 2 rfl) ?_
      obtain ⟨h22, hw⟩ := hw
      refine va_iald (f := ai_1 20) hx hb hK hP 20 0 rfl rfl h22 d_Mo_greatest_22 ?_
      refine vp_callSl (va_Run.run (va_runV (As := [.int (ai_1 20 x8_3.toNatClampNeg)]) (rest := []) ⟨hx, hb, hml, hown, hts⟩ (c_Mo_camber l dC dI cI cJ cG cZ a fi fl ai_1 al_1 (ai_1 20 x8_3.toNatClampNeg) _ hw) (cwV 1 hts (zw_goodV kw_849 kw_851 kw_s32 kw_9 kw_852) rfl rfl rfl hd_Mo_camber ⟨Nat.le_of_ble_eq_true rfl, Nat.le_of_ble_eq_true rfl⟩) (zw_preV (ci := 7) (q0 := 0) hK hN hP rfl rfl) rfl rfl hl.1 rfl (lv_room (Nat.le_of_ble_eq_true rfl)) d_Mo_greatest_23 ⟨Nat.le_of_ble_eq_true rfl, Nat.le_of_ble_eq_true rfl⟩)) (fun r23 hw => ?_)
      refine lv_lstore (lv' := [(4, .long r23), (0, .ref (a 0)), (1, .long x8_1), (3, .int x8_3)]) hx hb d_Mo_greatest_26 hl (by decide) rfl (fun ls hl => ?_)
      refine lv_lload hx hb d_Mo_greatest_28 (lv_at hl 0 rfl) ?_
      refine lv_lconst (v := (0 : Int64)) hx hb d_Mo_greatest_30 (by decide) ?_
      refine zw_jn1_i (P := fun (y43_0 : Int64) => ∀ (H : Heap) (locs : List Loc) (ls : Array Slot), va_P (dC, dI) vwCl (mw cI cJ cG cZ a fi fl ai_1 al_1) H → va_D A (mw cI cJ cG cZ a fi fl ai_1 al_1) → va_S A s.heap H locs → lv_has ls 8 [(0, .ref (a 0)), (1, .long x8_1), (3, .int x8_3)] → W p l e (headSpec ws_Mo_greatest ({ frames := 3, cells := 0, slots := 0, locals := 74 })).room s m ([.ref (a 0)] : List Value).toArray below meth c H locs 0 0 (MQ below (va_Ql (fun r (u : zw_Z) => (zw_k_ai_alr fi fl K) r u.1 u.2.1 u.2.2.1 u.2.2.2) (fun u t => zw_E (dC, dI) vwCl [(cI, .int), (cJ, .long), (cG, .array .int), (cZ, .boolean)] A (mw cI cJ cG cZ a u.1 u.2.1 u.2.2.1 u.2.2.2) t) A) ([.ref (a 0)] : List Value).toArray s 0 0 A) (F0 m 43 ls [.long y43_0])) hw (fun y43_0 hw H locs ls hP hD hS hl => ?_) (fun J43 hj43 hw => ?_)
      · refine lv_lstore (lv' := [(6, .long y43_0), (0, .ref (a 0)), (1, .long x8_1), (3, .int x8_3)]) hx hb d_Mo_greatest_43 hl (by decide) rfl (fun ls hl => ?_)
        refine lv_lload hx hb d_Mo_greatest_45 (lv_at hl 0 rfl) ?_
        refine lv_lload_n hx hb d_Mo_greatest_47 rfl (lv_at hl 2 rfl) ?_
        refine zw_jn1_i (P := fun (y58_0 : Int64) => ∀ (H : Heap) (locs : List Loc) (ls : Array Slot), va_P (dC, dI) vwCl (mw cI cJ cG cZ a fi fl ai_1 al_1) H → va_D A (mw cI cJ cG cZ a fi fl ai_1 al_1) → va_S A s.heap H locs → lv_has ls 8 [(0, .ref (a 0)), (3, .int x8_3)] → W p l e (headSpec ws_Mo_greatest ({ frames := 3, cells := 0, slots := 0, locals := 74 })).room s m ([.ref (a 0)] : List Value).toArray below meth c H locs 0 0 (MQ below (va_Ql (fun r (u : zw_Z) => (zw_k_ai_alr fi fl K) r u.1 u.2.1 u.2.2.1 u.2.2.2) (fun u t => zw_E (dC, dI) vwCl [(cI, .int), (cJ, .long), (cG, .array .int), (cZ, .boolean)] A (mw cI cJ cG cZ a u.1 u.2.1 u.2.2.1 u.2.2.2) t) A) ([.ref (a 0)] : List Value).toArray s 0 0 A) (F0 m 58 ls [.long y58_0])) hw (fun y58_0 hw H locs ls hP hD hS hl => ?_) (fun J58 hj58 hw => ?_)
        · refine lv_lstore_n (lv' := [(1, .long y58_0), (0, .ref (a 0)), (3, .int x8_3)]) hx hb d_Mo_greatest_58 rfl hl (by decide) rfl (fun ls hl => ?_)
          obtain ⟨v59, ev59⟩ : ∃ y : Int32, y = x8_3 + (1 : Int32) := ⟨_, rfl⟩
          refine lv_iinc (v := v59) (lv' := [(3, .int v59), (1, .long y58_0), (0, .ref (a 0))]) hx hb d_Mo_greatest_59 hl (k := 2) rfl (by rw [ev59]; rfl) (by decide) rfl (fun ls hl => ?_)
          have hw := zw_nm_x ev59 hw
          refine lv_goto (tgt := 8) hx hb d_Mo_greatest_62 (by decide) ?_
          exact (ih8 y58_0 v59 hw) H locs ls hP hD hS (lv_sub hl [2, 1, 0] rfl)
        · refine W.lcmp hx hb d_Mo_greatest_48 ?_
          refine lv_if_le (tgt := 57) hx hb d_Mo_greatest_49 (by decide) (fun c49 => ?_) (fun c49 => ?_)
          · have hw := zw_ite_t (zw_lg_le.mp c49) hw
            refine lv_lload_n hx hb d_Mo_greatest_57 rfl (lv_at hl 2 rfl) ?_
            exact (hj58 x8_1 hw) H locs ls hP hD hS (lv_sub hl [1, 3] rfl)
          · have hw := zw_ite_f (mt zw_lg_le.mpr c49) hw
            refine lv_lload hx hb d_Mo_greatest_52 (lv_at hl 0 rfl) ?_
            refine lv_goto (tgt := 58) hx hb d_Mo_greatest_54 (by decide) ?_
            exact (hj58 y43_0 hw) H locs ls hP hD hS (lv_sub hl [1, 3] rfl)
      · refine W.lcmp hx hb d_Mo_greatest_31 ?_
        refine lv_if_ge (tgt := 41) hx hb d_Mo_greatest_32 (by decide) (fun c32 => ?_) (fun c32 => ?_)
        · have hw := zw_ite_t (zw_lg_ge.mp c32) hw
          refine lv_lload hx hb d_Mo_greatest_41 (lv_at hl 0 rfl) ?_
          exact (hj43 r23 hw) H locs ls hP hD hS (lv_sub hl [1, 2, 3] rfl)
        · have hw := zw_ite_f (mt zw_lg_ge.mpr c32) hw
          refine lv_lload hx hb d_Mo_greatest_35 (lv_at hl 0 rfl) ?_
          refine lv_lneg hx hb d_Mo_greatest_37 ?_
          refine lv_goto (tgt := 43) hx hb d_Mo_greatest_38 (by decide) ?_
          exact (hj43 (-r23) hw) H locs ls hP hD hS (lv_sub hl [1, 2, 3] rfl)
  rw [hH, hlo] at key
  exact key
def Mo_best_w (fi : Nat → Int32) (fl : Nat → Int64) (ai : Nat → Nat → Int32) (al : Nat → Nat → Int64) (K : Int64 → (Nat → Int32) → (Nat → Nat → Int32) → (Nat → Nat → Int64) → Prop) : Prop :=
  Mo_takePlan_w fi fl ai al  (fun (fi_1 : Nat → Int32) (ai_1 : Nat → Nat → Int32) =>
  if (fi_1 8) = 0 then (
    K (-1000000000000000000 : Int64) fi_1 ai_1 al)
  else (
    zw_nm (1 : Int32) (fun (v16 : Int32) =>
    zw_lp2 (fun L17 (x17_1 : Int32) (ai17 : Nat → Nat → Int32) =>
    if (fi_1 8) ≤ x17_1 then (
      zw_nm (-1 : Int64) (fun (v86 : Int64) =>
      zw_nm (1 : Int32) (fun (v88 : Int32) =>
      zw_lp4 (fun L89 (x89_1 : Int64) (x89_3 : Int32) (ai89 : Nat → Nat → Int32) (al89 : Nat → Nat → Int64) =>
      if x89_3 = 0 then (
        zw_nm (va_up fi_1 7 (fi_1 8)) (fun (fi_167 : Nat → Int32) =>
        zw_nm (0 : Int32) (fun (v171 : Int32) =>
        zw_lp2 (fun L173 (x173_4 : Int32) (ai173 : Nat → Nat → Int32) =>
        if (fi_167 7) ≤ x173_4 then (
          K x89_1 fi_167 ai173 al89)
        else (
          vp_in x173_4 6 ∧ (
          vp_in x173_4 6 ∧ (zw_nm (va_up ai173 19 (upd (ai173 19) x173_4.toNatClampNeg (ai173 26 x173_4.toNatClampNeg))) (fun (ai_195 : Nat → Nat → Int32) =>
          zw_nm (x173_4 + (1 : Int32)) (fun (v196 : Int32) =>
          L173 v196 ai_195)))))) v171 ai89)))
      else (
        Mo_isAllowed_w fi_1 fl ai89 al89  (fun (r94 : Int32) (ai_94 : Nat → Nat → Int32) =>
        zw_jn3 (fun (x154_1 : Int64) (ai154 : Nat → Nat → Int32) (al154 : Nat → Nat → Int64) =>
        Mo_nextRow_w fi_1 fl ai154 al154  (fun (r155 : Int32) (ai_155 : Nat → Nat → Int32) =>
        L89 x154_1 r155 ai_155 al154)) (fun J154 =>
        if r94 = 0 then (
          J154 x89_1 ai_94 al89)
        else (
          Mo_greatest_w fi_1 fl ai_94 al89  (fun (r101 : Int64) (ai_101 : Nat → Nat → Int32) (al_101 : Nat → Nat → Int64) =>
          zw_jn0 (
          zw_nm (0 : Int32) (fun (v123 : Int32) =>
          zw_lp2 (fun L125 (x125_6 : Int32) (ai125 : Nat → Nat → Int32) =>
          if (fi_1 8) ≤ x125_6 then (
            J154 r101 ai125 al_101)
          else (
            vp_in x125_6 6 ∧ (
            vp_in x125_6 6 ∧ (zw_nm (va_up ai125 26 (upd (ai125 26) x125_6.toNatClampNeg (ai125 20 x125_6.toNatClampNeg))) (fun (ai_147 : Nat → Nat → Int32) =>
            zw_nm (x125_6 + (1 : Int32)) (fun (v148 : Int32) =>
            L125 v148 ai_147)))))) v123 ai_101)) (fun J119 =>
          if x89_1 < (0 : Int64) then (
            J119)
          else (
            if x89_1 ≤ r101 then (
              J154 x89_1 ai_101 al_101)
            else (
              J119))))))))) v86 v88 ai17 al)))
    else (
      vp_in x17_1 6 ∧ (
      zw_nm (ai17 20 x17_1.toNatClampNeg) (fun (v31 : Int32) =>
      zw_lp2 (fun L34 (x34_3 : Int32) (ai34 : Nat → Nat → Int32) =>
      zw_jn0 (
      vp_in x34_3 6 ∧ (zw_nm (va_up ai34 20 (upd (ai34 20) x34_3.toNatClampNeg v31)) (fun (ai_76 : Nat → Nat → Int32) =>
      zw_nm (x17_1 + (1 : Int32)) (fun (v77 : Int32) =>
      L17 v77 ai_76)))) (fun J70 =>
      if x34_3 ≤ 0 then (
        J70)
      else (
        vp_in (x34_3 - (1 : Int32)) 6 ∧ (
        if (ai34 20 (x34_3 - (1 : Int32)).toNatClampNeg) ≤ v31 then (
          J70)
        else (
          vp_in (x34_3 - (1 : Int32)) 6 ∧ (
          vp_in x34_3 6 ∧ (zw_nm (va_up ai34 20 (upd (ai34 20) x34_3.toNatClampNeg (ai34 20 (x34_3 - (1 : Int32)).toNatClampNeg))) (fun (ai_63 : Nat → Nat → Int32) =>
          zw_nm (x34_3 + (-1 : Int32)) (fun (v64 : Int32) =>
          L34 v64 ai_63))))))))) x17_1 ai17)))) v16 ai_1)))
theorem d_Mo_best_0 : decode b_Mo_best 0 = .ok (.aload_n 0, 1) := by decide +kernel
theorem d_Mo_best_1 : decode b_Mo_best 1 = .ok (.invokevirtual 191, 3) := by decide +kernel
theorem d_Mo_best_4 : decode b_Mo_best 4 = .ok (.aload_n 0, 1) := by decide +kernel
theorem d_Mo_best_5 : decode b_Mo_best 5 = .ok (.getfield 165, 3) := by decide +kernel
theorem d_Mo_best_8 : decode b_Mo_best 8 = .ok (.ifCond .ne (7), 3) := by decide +kernel
theorem d_Mo_best_11 : decode b_Mo_best 11 = .ok (.ldc2_w 148, 3) := by decide +kernel
theorem d_Mo_best_14 : decode b_Mo_best 14 = .ok (.lreturn, 1) := by decide +kernel
theorem d_Mo_best_15 : decode b_Mo_best 15 = .ok (.iconst 1, 1) := by decide +kernel
theorem d_Mo_best_16 : decode b_Mo_best 16 = .ok (.istore_n 1, 1) := by decide +kernel
theorem d_Mo_best_17 : decode b_Mo_best 17 = .ok (.iload_n 1, 1) := by decide +kernel
theorem d_Mo_best_18 : decode b_Mo_best 18 = .ok (.aload_n 0, 1) := by decide +kernel
theorem d_Mo_best_19 : decode b_Mo_best 19 = .ok (.getfield 165, 3) := by decide +kernel
theorem d_Mo_best_22 : decode b_Mo_best 22 = .ok (.if_icmp .ge (61), 3) := by decide +kernel
theorem d_Mo_best_25 : decode b_Mo_best 25 = .ok (.aload_n 0, 1) := by decide +kernel
theorem d_Mo_best_26 : decode b_Mo_best 26 = .ok (.getfield 76, 3) := by decide +kernel
theorem d_Mo_best_29 : decode b_Mo_best 29 = .ok (.iload_n 1, 1) := by decide +kernel
theorem d_Mo_best_30 : decode b_Mo_best 30 = .ok (.iaload, 1) := by decide +kernel
theorem d_Mo_best_31 : decode b_Mo_best 31 = .ok (.istore_n 2, 1) := by decide +kernel
theorem d_Mo_best_32 : decode b_Mo_best 32 = .ok (.iload_n 1, 1) := by decide +kernel
theorem d_Mo_best_33 : decode b_Mo_best 33 = .ok (.istore_n 3, 1) := by decide +kernel
theorem d_Mo_best_34 : decode b_Mo_best 34 = .ok (.iload_n 3, 1) := by decide +kernel
theorem d_Mo_best_35 : decode b_Mo_best 35 = .ok (.ifCond .le (35), 3) := by decide +kernel
theorem d_Mo_best_38 : decode b_Mo_best 38 = .ok (.aload_n 0, 1) := by decide +kernel
theorem d_Mo_best_39 : decode b_Mo_best 39 = .ok (.getfield 76, 3) := by decide +kernel
theorem d_Mo_best_42 : decode b_Mo_best 42 = .ok (.iload_n 3, 1) := by decide +kernel
theorem d_Mo_best_43 : decode b_Mo_best 43 = .ok (.iconst 1, 1) := by decide +kernel
theorem d_Mo_best_44 : decode b_Mo_best 44 = .ok (.isub, 1) := by decide +kernel
theorem d_Mo_best_45 : decode b_Mo_best 45 = .ok (.iaload, 1) := by decide +kernel
theorem d_Mo_best_46 : decode b_Mo_best 46 = .ok (.iload_n 2, 1) := by decide +kernel
theorem d_Mo_best_47 : decode b_Mo_best 47 = .ok (.if_icmp .le (23), 3) := by decide +kernel
theorem d_Mo_best_50 : decode b_Mo_best 50 = .ok (.aload_n 0, 1) := by decide +kernel
theorem d_Mo_best_51 : decode b_Mo_best 51 = .ok (.getfield 76, 3) := by decide +kernel
theorem d_Mo_best_54 : decode b_Mo_best 54 = .ok (.iload_n 3, 1) := by decide +kernel
theorem d_Mo_best_55 : decode b_Mo_best 55 = .ok (.aload_n 0, 1) := by decide +kernel
theorem d_Mo_best_56 : decode b_Mo_best 56 = .ok (.getfield 76, 3) := by decide +kernel
theorem d_Mo_best_59 : decode b_Mo_best 59 = .ok (.iload_n 3, 1) := by decide +kernel
theorem d_Mo_best_60 : decode b_Mo_best 60 = .ok (.iconst 1, 1) := by decide +kernel
theorem d_Mo_best_61 : decode b_Mo_best 61 = .ok (.isub, 1) := by decide +kernel
theorem d_Mo_best_62 : decode b_Mo_best 62 = .ok (.iaload, 1) := by decide +kernel
theorem d_Mo_best_63 : decode b_Mo_best 63 = .ok (.iastore, 1) := by decide +kernel
theorem d_Mo_best_64 : decode b_Mo_best 64 = .ok (.iinc 3 (-1), 3) := by decide +kernel
theorem d_Mo_best_67 : decode b_Mo_best 67 = .ok (.goto (-33), 3) := by decide +kernel
theorem d_Mo_best_70 : decode b_Mo_best 70 = .ok (.aload_n 0, 1) := by decide +kernel
theorem d_Mo_best_71 : decode b_Mo_best 71 = .ok (.getfield 76, 3) := by decide +kernel
theorem d_Mo_best_74 : decode b_Mo_best 74 = .ok (.iload_n 3, 1) := by decide +kernel
theorem d_Mo_best_75 : decode b_Mo_best 75 = .ok (.iload_n 2, 1) := by decide +kernel
theorem d_Mo_best_76 : decode b_Mo_best 76 = .ok (.iastore, 1) := by decide +kernel
theorem d_Mo_best_77 : decode b_Mo_best 77 = .ok (.iinc 1 (1), 3) := by decide +kernel
theorem d_Mo_best_80 : decode b_Mo_best 80 = .ok (.goto (-63), 3) := by decide +kernel
theorem d_Mo_best_83 : decode b_Mo_best 83 = .ok (.ldc2_w 228, 3) := by decide +kernel
theorem d_Mo_best_86 : decode b_Mo_best 86 = .ok (.lstore_n 1, 1) := by decide +kernel
theorem d_Mo_best_87 : decode b_Mo_best 87 = .ok (.iconst 1, 1) := by decide +kernel
theorem d_Mo_best_88 : decode b_Mo_best 88 = .ok (.istore_n 3, 1) := by decide +kernel
theorem d_Mo_best_89 : decode b_Mo_best 89 = .ok (.iload_n 3, 1) := by decide +kernel
theorem d_Mo_best_90 : decode b_Mo_best 90 = .ok (.ifCond .eq (72), 3) := by decide +kernel
theorem d_Mo_best_93 : decode b_Mo_best 93 = .ok (.aload_n 0, 1) := by decide +kernel
theorem d_Mo_best_94 : decode b_Mo_best 94 = .ok (.invokevirtual 230, 3) := by decide +kernel
theorem d_Mo_best_97 : decode b_Mo_best 97 = .ok (.ifCond .eq (57), 3) := by decide +kernel
theorem d_Mo_best_100 : decode b_Mo_best 100 = .ok (.aload_n 0, 1) := by decide +kernel
theorem d_Mo_best_101 : decode b_Mo_best 101 = .ok (.invokevirtual 233, 3) := by decide +kernel
theorem d_Mo_best_104 : decode b_Mo_best 104 = .ok (.lstore 4, 2) := by decide +kernel
theorem d_Mo_best_106 : decode b_Mo_best 106 = .ok (.lload_n 1, 1) := by decide +kernel
theorem d_Mo_best_107 : decode b_Mo_best 107 = .ok (.lconst 0, 1) := by decide +kernel
theorem d_Mo_best_108 : decode b_Mo_best 108 = .ok (.lcmp, 1) := by decide +kernel
theorem d_Mo_best_109 : decode b_Mo_best 109 = .ok (.ifCond .lt (10), 3) := by decide +kernel
theorem d_Mo_best_112 : decode b_Mo_best 112 = .ok (.lload 4, 2) := by decide +kernel
theorem d_Mo_best_114 : decode b_Mo_best 114 = .ok (.lload_n 1, 1) := by decide +kernel
theorem d_Mo_best_115 : decode b_Mo_best 115 = .ok (.lcmp, 1) := by decide +kernel
theorem d_Mo_best_116 : decode b_Mo_best 116 = .ok (.ifCond .ge (38), 3) := by decide +kernel
theorem d_Mo_best_119 : decode b_Mo_best 119 = .ok (.lload 4, 2) := by decide +kernel
theorem d_Mo_best_121 : decode b_Mo_best 121 = .ok (.lstore_n 1, 1) := by decide +kernel
theorem d_Mo_best_122 : decode b_Mo_best 122 = .ok (.iconst 0, 1) := by decide +kernel
theorem d_Mo_best_123 : decode b_Mo_best 123 = .ok (.istore 6, 2) := by decide +kernel
theorem d_Mo_best_125 : decode b_Mo_best 125 = .ok (.iload 6, 2) := by decide +kernel
theorem d_Mo_best_127 : decode b_Mo_best 127 = .ok (.aload_n 0, 1) := by decide +kernel
theorem d_Mo_best_128 : decode b_Mo_best 128 = .ok (.getfield 165, 3) := by decide +kernel
theorem d_Mo_best_131 : decode b_Mo_best 131 = .ok (.if_icmp .ge (23), 3) := by decide +kernel
theorem d_Mo_best_134 : decode b_Mo_best 134 = .ok (.aload_n 0, 1) := by decide +kernel
theorem d_Mo_best_135 : decode b_Mo_best 135 = .ok (.getfield 94, 3) := by decide +kernel
theorem d_Mo_best_138 : decode b_Mo_best 138 = .ok (.iload 6, 2) := by decide +kernel
theorem d_Mo_best_140 : decode b_Mo_best 140 = .ok (.aload_n 0, 1) := by decide +kernel
theorem d_Mo_best_141 : decode b_Mo_best 141 = .ok (.getfield 76, 3) := by decide +kernel
theorem d_Mo_best_144 : decode b_Mo_best 144 = .ok (.iload 6, 2) := by decide +kernel
theorem d_Mo_best_146 : decode b_Mo_best 146 = .ok (.iaload, 1) := by decide +kernel
theorem d_Mo_best_147 : decode b_Mo_best 147 = .ok (.iastore, 1) := by decide +kernel
theorem d_Mo_best_148 : decode b_Mo_best 148 = .ok (.iinc 6 (1), 3) := by decide +kernel
theorem d_Mo_best_151 : decode b_Mo_best 151 = .ok (.goto (-26), 3) := by decide +kernel
theorem d_Mo_best_154 : decode b_Mo_best 154 = .ok (.aload_n 0, 1) := by decide +kernel
theorem d_Mo_best_155 : decode b_Mo_best 155 = .ok (.invokevirtual 237, 3) := by decide +kernel
theorem d_Mo_best_158 : decode b_Mo_best 158 = .ok (.istore_n 3, 1) := by decide +kernel
theorem d_Mo_best_159 : decode b_Mo_best 159 = .ok (.goto (-70), 3) := by decide +kernel
theorem d_Mo_best_162 : decode b_Mo_best 162 = .ok (.aload_n 0, 1) := by decide +kernel
theorem d_Mo_best_163 : decode b_Mo_best 163 = .ok (.aload_n 0, 1) := by decide +kernel
theorem d_Mo_best_164 : decode b_Mo_best 164 = .ok (.getfield 165, 3) := by decide +kernel
theorem d_Mo_best_167 : decode b_Mo_best 167 = .ok (.putfield 240, 3) := by decide +kernel
theorem d_Mo_best_170 : decode b_Mo_best 170 = .ok (.iconst 0, 1) := by decide +kernel
theorem d_Mo_best_171 : decode b_Mo_best 171 = .ok (.istore 4, 2) := by decide +kernel
theorem d_Mo_best_173 : decode b_Mo_best 173 = .ok (.iload 4, 2) := by decide +kernel
theorem d_Mo_best_175 : decode b_Mo_best 175 = .ok (.aload_n 0, 1) := by decide +kernel
theorem d_Mo_best_176 : decode b_Mo_best 176 = .ok (.getfield 240, 3) := by decide +kernel
theorem d_Mo_best_179 : decode b_Mo_best 179 = .ok (.if_icmp .ge (23), 3) := by decide +kernel
theorem d_Mo_best_182 : decode b_Mo_best 182 = .ok (.aload_n 0, 1) := by decide +kernel
theorem d_Mo_best_183 : decode b_Mo_best 183 = .ok (.getfield 73, 3) := by decide +kernel
theorem d_Mo_best_186 : decode b_Mo_best 186 = .ok (.iload 4, 2) := by decide +kernel
theorem d_Mo_best_188 : decode b_Mo_best 188 = .ok (.aload_n 0, 1) := by decide +kernel
theorem d_Mo_best_189 : decode b_Mo_best 189 = .ok (.getfield 94, 3) := by decide +kernel
theorem d_Mo_best_192 : decode b_Mo_best 192 = .ok (.iload 4, 2) := by decide +kernel
theorem d_Mo_best_194 : decode b_Mo_best 194 = .ok (.iaload, 1) := by decide +kernel
theorem d_Mo_best_195 : decode b_Mo_best 195 = .ok (.iastore, 1) := by decide +kernel
theorem d_Mo_best_196 : decode b_Mo_best 196 = .ok (.iinc 4 (1), 3) := by decide +kernel
theorem d_Mo_best_199 : decode b_Mo_best 199 = .ok (.goto (-26), 3) := by decide +kernel
theorem d_Mo_best_202 : decode b_Mo_best 202 = .ok (.lload_n 1, 1) := by decide +kernel
theorem d_Mo_best_203 : decode b_Mo_best 203 = .ok (.lreturn, 1) := by decide +kernel
set_option maxHeartbeats 4000000 in
set_option maxRecDepth 100000 in
theorem c_Mo_best (l : Launch) (dC : Nat → ClassId) (dI : Nat → Nat → Nat) (cI cJ cG cZ : ClassId) (a : Nat → Nat) (sz : Nat) (fi : Nat → Int32) (fl : Nat → Int64) (ai : Nat → Nat → Int32) (al : Nat → Nat → Int64) (K : Int64 → (Nat → Int32) → (Nat → Nat → Int32) → (Nat → Nat → Int64) → Prop) (hw : Mo_best_w fi fl ai al K) : Met l y_Mo_best ws_Mo_best ({ frames := 4, cells := 0, slots := 0, locals := 101 }) (va_Pc [.ref (a 0)] (zw_Bw (dC, dI) vwCl [(cI, .int), (cJ, .long), (cG, .array .int), (cZ, .boolean)] (mw cI cJ cG cZ a fi fl ai al) sz)) (va_Ql (fun r (u : zw_Z) => (zw_k_fi_ai_alr fl K) r u.1 u.2.1 u.2.2.1 u.2.2.2) (fun u t => zw_E (dC, dI) vwCl [(cI, .int), (cJ, .long), (cG, .array .int), (cZ, .boolean)] (va_A (mw cI cJ cG cZ a fi fl ai al) sz) (mw cI cJ cG cZ a u.1 u.2.1 u.2.2.1 u.2.2.2) t) (va_A (mw cI cJ cG cZ a fi fl ai al) sz)) 0 0 (va_A (mw cI cJ cG cZ a fi fl ai al) sz) := by
  refine Met.ofW (cc := b_Mo_best) (maxL := 7) (ret := (Option.some FieldType.long)) (by decide) rfl ?_
  intro p e s m args below meth c s₁ B hml hv
  obtain ⟨rfl, hsz, hP, hK, hD0, hN⟩ := hv
  have hx := B.exec
  have hb := B.bytes
  have hr := B.returns
  have hts := atoms_spec (ws := ws_Mo_best) B.pre
  have ht : ∀ w ∈ zw_tbl, w.before _ s = true := fun w h => hts w (List.mem_cons_of_mem _ h)
  have hown : s.vm.findClass R_Mo = some m.cls := findClass_of_methodNamed B.named
  have hlocks := B.notSynchronized
  subst hsz
  have hD := hD0.self (sz := s.heap.size)
  generalize hAe : va_A (mw cI cJ cG cZ a fi fl ai al) s.heap.size = A at hD ⊢
  have hA : ∀ q : Nat, s.heap.size ≤ q → A q := fun q h => by rw [← hAe]; exact Or.inr h
  have hS : va_S A s.heap s.heap [] := va_S.rf
  have hl := lv_entry ([.ref (a 0)] : List Value) (n := 7) (Nat.le_of_ble_eq_true rfl)
  rw [lg_entry_eq]
  generalize (lg_sl ([.ref (a 0)] : List Value) ++ List.replicate (7 - (lg_sl ([.ref (a 0)] : List Value)).length) Slot.unset).toArray = ls at hl ⊢
  have hl : lv_has ls 7 [(0, .ref (a 0))] := hl
  unfold Mo_best_w at hw
  obtain ⟨H, hH⟩ : ∃ H, H = s.heap := ⟨_, rfl⟩
  obtain ⟨locs, hlo⟩ : ∃ q : List Loc, q = [] := ⟨_, rfl⟩
  have hP : va_P (dC, dI) vwCl (mw cI cJ cG cZ a fi fl ai al) H := by rw [hH]; exact hP
  have hS : va_S A s.heap H locs := by rw [hH, hlo]; exact hS
  have key : W p l e (headSpec ws_Mo_best ({ frames := 4, cells := 0, slots := 0, locals := 101 })).room s m ([.ref (a 0)] : List Value).toArray below meth c H locs 0 0 (MQ below (va_Ql (fun r (u : zw_Z) => (zw_k_fi_ai_alr fl K) r u.1 u.2.1 u.2.2.1 u.2.2.2) (fun u t => zw_E (dC, dI) vwCl [(cI, .int), (cJ, .long), (cG, .array .int), (cZ, .boolean)] A (mw cI cJ cG cZ a u.1 u.2.1 u.2.2.1 u.2.2.2) t) A) ([.ref (a 0)] : List Value).toArray s 0 0 A) (F0 m 0 ls []) := by
    refine lv_aload_n hx hb d_Mo_best_0 rfl (lv_at hl 0 rfl) ?_
    refine zw_cv (va_runV (As := []) (rest := []) ⟨hx, hb, hml, hown, hts⟩ (c_Mo_takePlan l dC dI cI cJ cG cZ a H.size fi fl ai al _ hw) (cwV 0 hts (zw_goodV kw_820 kw_822 kw_s25 kw_9 kw_823) rfl rfl rfl hd_Mo_takePlan ⟨Nat.le_of_ble_eq_true rfl, Nat.le_of_ble_eq_true rfl⟩) (zw_preVw (ci := 7) (q0 := 0) hK hN hP hD rfl rfl) rfl rfl hl.1 rfl (lv_room (Nat.le_of_ble_eq_true rfl)) d_Mo_best_1 ⟨Nat.le_of_ble_eq_true rfl, Nat.le_of_ble_eq_true rfl⟩) hD hS hA (fun fi_1 fl_1 ai_1 al_1 H locs hw hP hD hS => ?_)
    obtain ⟨rfl, rfl, hw⟩ := hw
    refine lv_aload_n hx hb d_Mo_best_4 rfl (lv_at hl 0 rfl) ?_
    refine va_get (D := (dC, dI)) (ci := 7) (v := .int (fi_1 8)) (C := R_Mo) (T := T_Mo) (N := 36) hx hb ht in_Mo hown hK hP 0 rfl rfl 28 (by decide) (ht _ kw_641) (fun _ h9 => h9) rfl d_Mo_best_5 ?_
    refine lv_if_ne (tgt := 15) hx hb d_Mo_best_8 (by decide) (fun c8 => ?_) (fun c8 => ?_)
    · have hw := zw_ite_f c8 hw
      refine lv_iconst (v := (1 : Int32)) hx hb d_Mo_best_15 (by decide) ?_
      refine lv_topi (fun v16 ev16 => ?_)
      have hw := zw_nm_x ev16 hw
      refine lv_istore_n (lv' := [(1, .int v16), (0, .ref (a 0))]) hx hb d_Mo_best_16 rfl hl (by decide) rfl (fun ls hl => ?_)
      refine (zw_lp2_i (P := fun (x17_1 : Int32) (ai17 : Nat → Nat → Int32) => ∀ (H : Heap) (locs : List Loc) (ls : Array Slot), va_P (dC, dI) vwCl (mw cI cJ cG cZ a fi_1 fl ai17 al) H → va_D A (mw cI cJ cG cZ a fi_1 fl ai17 al) → va_S A s.heap H locs → lv_has ls 7 [(0, .ref (a 0)), (1, .int x17_1)] → W p l e (headSpec ws_Mo_best ({ frames := 4, cells := 0, slots := 0, locals := 101 })).room s m ([.ref (a 0)] : List Value).toArray below meth c H locs 0 0 (MQ below (va_Ql (fun r (u : zw_Z) => (zw_k_fi_ai_alr fl K) r u.1 u.2.1 u.2.2.1 u.2.2.2) (fun u t => zw_E (dC, dI) vwCl [(cI, .int), (cJ, .long), (cG, .array .int), (cZ, .boolean)] A (mw cI cJ cG cZ a u.1 u.2.1 u.2.2.1 u.2.2.2) t) A) ([.ref (a 0)] : List Value).toArray s 0 0 A) (F0 m 17 ls [])) hw (fun L17 x17_1 ai17 ih17 hw H locs ls hP hD hS hl => ?_)) H locs ls hP hD hS (lv_sub hl [1, 0] rfl)
      refine lv_iload_n hx hb d_Mo_best_17 rfl (lv_at hl 1 rfl) ?_
      refine lv_aload_n hx hb d_Mo_best_18 rfl (lv_at hl 0 rfl) ?_
      refine va_get (D := (dC, dI)) (ci := 7) (v := .int (fi_1 8)) (C := R_Mo) (T := T_Mo) (N := 36) hx hb ht in_Mo hown hK hP 0 rfl rfl 28 (by decide) (ht _ kw_641) (fun _ h9 => h9) rfl d_Mo_best_19 ?_
      refine lv_icmp_ge (tgt := 83) hx hb d_Mo_best_22 (by decide) (fun c22 => ?_) (fun c22 => ?_)
      · have hw := zw_ite_t c22 hw
        refine lv_ldc2 (v := (-1 : Int64)) hx hb hown (hts (.constantLong R_Mo 228 (-1 : Int64)) (by decide +kernel)) d_Mo_best_83 ?_
        refine lv_topl (fun v86 ev86 => ?_)
        have hw := zw_nm_x ev86 hw
        refine lv_lstore_n (lv' := [(1, .long v86), (0, .ref (a 0))]) hx hb d_Mo_best_86 rfl hl (by decide) rfl (fun ls hl => ?_)
        refine lv_iconst (v := (1 : Int32)) hx hb d_Mo_best_87 (by decide) ?_
        refine lv_topi (fun v88 ev88 => ?_)
        have hw := zw_nm_x ev88 hw
        refine lv_istore_n (lv' := [(3, .int v88), (1, .long v86), (0, .ref (a 0))]) hx hb d_Mo_best_88 rfl hl (by decide) rfl (fun ls hl => ?_)
        refine (zw_lp4_i (P := fun (x89_1 : Int64) (x89_3 : Int32) (ai89 : Nat → Nat → Int32) (al89 : Nat → Nat → Int64) => ∀ (H : Heap) (locs : List Loc) (ls : Array Slot), va_P (dC, dI) vwCl (mw cI cJ cG cZ a fi_1 fl ai89 al89) H → va_D A (mw cI cJ cG cZ a fi_1 fl ai89 al89) → va_S A s.heap H locs → lv_has ls 7 [(0, .ref (a 0)), (1, .long x89_1), (3, .int x89_3)] → W p l e (headSpec ws_Mo_best ({ frames := 4, cells := 0, slots := 0, locals := 101 })).room s m ([.ref (a 0)] : List Value).toArray below meth c H locs 0 0 (MQ below (va_Ql (fun r (u : zw_Z) => (zw_k_fi_ai_alr fl K) r u.1 u.2.1 u.2.2.1 u.2.2.2) (fun u t => zw_E (dC, dI) vwCl [(cI, .int), (cJ, .long), (cG, .array .int), (cZ, .boolean)] A (mw cI cJ cG cZ a u.1 u.2.1 u.2.2.1 u.2.2.2) t) A) ([.ref (a 0)] : List Value).toArray s 0 0 A) (F0 m 89 ls [])) hw (fun L89 x89_1 x89_3 ai89 al89 ih89 hw H locs ls hP hD hS hl => ?_)) H locs ls hP hD hS (lv_sub hl [2, 1, 0] rfl)
        refine lv_iload_n hx hb d_Mo_best_89 rfl (lv_at hl 2 rfl) ?_
        refine lv_if_eq (tgt := 162) hx hb d_Mo_best_90 (by decide) (fun c90 => ?_) (fun c90 => ?_)
        · have hw := zw_ite_t c90 hw
          refine lv_aload_n hx hb d_Mo_best_162 rfl (lv_at hl 0 rfl) ?_
          refine lv_aload_n hx hb d_Mo_best_163 rfl (lv_at hl 0 rfl) ?_
          refine va_get (D := (dC, dI)) (ci := 7) (v := .int (fi_1 8)) (C := R_Mo) (T := T_Mo) (N := 36) hx hb ht in_Mo hown hK hP 0 rfl rfl 28 (by decide) (ht _ kw_641) (fun _ h9 => h9) rfl d_Mo_best_164 ?_
          refine va_put (D := (dC, dI)) (ci := 7) (v := .int (fi_1 8)) (ty := .int) (C := R_Mo) (T := T_Mo) (N := 36) hx hb ht in_Mo t_Mo t_Mo_ok n_Mo hown hK hP hD hS 0 rfl rfl 26 (by decide) (ht _ kw_639) (fun _ h9 => h9) rfl (by decide +kernel) rfl rfl (Nat.le_of_ble_eq_true rfl) d_Mo_best_167 (fun H locs hP hD hS => ?_)
          have hP := mwpfi_7 hP
          have hD := mwdfi_7 hD
          obtain ⟨fi_167, efi_167⟩ : ∃ z, z = va_up fi_1 7 (fi_1 8) := ⟨_, rfl⟩
          rw [← efi_167] at hP hD
          have hw := zw_nm_x efi_167 hw
          refine lv_iconst (v := (0 : Int32)) hx hb d_Mo_best_170 (by decide) ?_
          refine lv_topi (fun v171 ev171 => ?_)
          have hw := zw_nm_x ev171 hw
          refine lv_istore (lv' := [(4, .int v171), (0, .ref (a 0)), (1, .long x89_1), (3, .int x89_3)]) hx hb d_Mo_best_171 hl (by decide) rfl (fun ls hl => ?_)
          refine (zw_lp2_i (P := fun (x173_4 : Int32) (ai173 : Nat → Nat → Int32) => ∀ (H : Heap) (locs : List Loc) (ls : Array Slot), va_P (dC, dI) vwCl (mw cI cJ cG cZ a fi_167 fl ai173 al89) H → va_D A (mw cI cJ cG cZ a fi_167 fl ai173 al89) → va_S A s.heap H locs → lv_has ls 7 [(0, .ref (a 0)), (1, .long x89_1), (4, .int x173_4)] → W p l e (headSpec ws_Mo_best ({ frames := 4, cells := 0, slots := 0, locals := 101 })).room s m ([.ref (a 0)] : List Value).toArray below meth c H locs 0 0 (MQ below (va_Ql (fun r (u : zw_Z) => (zw_k_fi_ai_alr fl K) r u.1 u.2.1 u.2.2.1 u.2.2.2) (fun u t => zw_E (dC, dI) vwCl [(cI, .int), (cJ, .long), (cG, .array .int), (cZ, .boolean)] A (mw cI cJ cG cZ a u.1 u.2.1 u.2.2.1 u.2.2.2) t) A) ([.ref (a 0)] : List Value).toArray s 0 0 A) (F0 m 173 ls [])) hw (fun L173 x173_4 ai173 ih173 hw H locs ls hP hD hS hl => ?_)) H locs ls hP hD hS (lv_sub hl [1, 2, 0] rfl)
          refine lv_iload hx hb d_Mo_best_173 (lv_at hl 2 rfl) ?_
          refine lv_aload_n hx hb d_Mo_best_175 rfl (lv_at hl 0 rfl) ?_
          refine va_get (D := (dC, dI)) (ci := 7) (v := .int (fi_167 7)) (C := R_Mo) (T := T_Mo) (N := 36) hx hb ht in_Mo hown hK hP 0 rfl rfl 26 (by decide) (ht _ kw_639) (fun _ h9 => h9) rfl d_Mo_best_176 ?_
          refine lv_icmp_ge (tgt := 202) hx hb d_Mo_best_179 (by decide) (fun c179 => ?_) (fun c179 => ?_)
          · have hw := zw_ite_t c179 hw
            refine lv_lload_n hx hb d_Mo_best_202 rfl (lv_at hl 1 rfl) ?_
            exact W.lret (v := x89_1) hx hb hr (fun t ht hW => ⟨⟨x89_1, (fi_167, fl, ai173, al89), rfl, ⟨rfl, hw⟩, by rw [ht]; exact hP, va_K.moved hW.alike hK, hD⟩, hS.F ht⟩) hS.2.2 d_Mo_best_203
          · have hw := zw_ite_f c179 hw
            refine lv_aload_n hx hb d_Mo_best_182 rfl (lv_at hl 0 rfl) ?_
            refine va_get (D := (dC, dI)) (ci := 7) (v := .ref (a 19)) (C := R_Mo) (T := T_Mo) (N := 36) hx hb ht in_Mo hown hK hP 0 rfl rfl 25 (by decide) (ht _ kw_638) (fun _ h9 => h9) rfl d_Mo_best_183 ?_
            refine lv_iload hx hb d_Mo_best_186 (lv_at hl 2 rfl) ?_
            refine lv_aload_n hx hb d_Mo_best_188 rfl (lv_at hl 0 rfl) ?_
            refine va_get (D := (dC, dI)) (ci := 7) (v := .ref (a 26)) (C := R_Mo) (T := T_Mo) (N := 36) hx hb ht in_Mo hown hK hP 0 rfl rfl 34 (by decide) (ht _ kw_647) (fun _ h9 => h9) rfl d_Mo_best_189 ?_
            refine lv_iload hx hb d_Mo_best_192 (lv_at hl 2 rfl) ?_
            obtain ⟨h194, hw⟩ := hw
            refine va_iald (f := ai173 26) hx hb hK hP 26 0 rfl rfl h194 d_Mo_best_194 ?_
            obtain ⟨h195, hw⟩ := hw
            refine va_iast (f := ai173 19) hx hb hK hP hD hS 19 0 rfl rfl h195 d_Mo_best_195 (fun H locs hP hD hS => ?_)
            have hP := mwpai_19 hP
            have hD := mwdai_19 hD
            obtain ⟨ai_195, eai_195⟩ : ∃ z, z = va_up ai173 19 (upd (ai173 19) x173_4.toNatClampNeg (ai173 26 x173_4.toNatClampNeg)) := ⟨_, rfl⟩
            rw [← eai_195] at hP hD
            have hw := zw_nm_x eai_195 hw
            obtain ⟨v196, ev196⟩ : ∃ y : Int32, y = x173_4 + (1 : Int32) := ⟨_, rfl⟩
            refine lv_iinc (v := v196) (lv' := [(4, .int v196), (0, .ref (a 0)), (1, .long x89_1)]) hx hb d_Mo_best_196 hl (k := 2) rfl (by rw [ev196]; rfl) (by decide) rfl (fun ls hl => ?_)
            have hw := zw_nm_x ev196 hw
            refine lv_goto (tgt := 173) hx hb d_Mo_best_199 (by decide) ?_
            exact (ih173 v196 ai_195 hw) H locs ls hP hD hS (lv_sub hl [1, 2, 0] rfl)
        · have hw := zw_ite_f c90 hw
          refine lv_aload_n hx hb d_Mo_best_93 rfl (lv_at hl 0 rfl) ?_
          refine zw_ci (va_runV (As := []) (rest := []) ⟨hx, hb, hml, hown, hts⟩ (c_Mo_isAllowed l dC dI cI cJ cG cZ a H.size fi_1 fl ai89 al89 _ hw) (cwV 0 hts (zw_goodV kw_917 kw_919 kw_s39 kw_9 kw_920) rfl rfl rfl hd_Mo_isAllowed ⟨Nat.le_of_ble_eq_true rfl, Nat.le_of_ble_eq_true rfl⟩) (zw_preVw (ci := 7) (q0 := 0) hK hN hP hD rfl rfl) rfl rfl hl.1 rfl (lv_room (Nat.le_of_ble_eq_true rfl)) d_Mo_best_94 ⟨Nat.le_of_ble_eq_true rfl, Nat.le_of_ble_eq_true rfl⟩) hD hS hA (fun r94 fi_94 fl_94 ai_94 al_94 H locs hw hP hD hS => ?_)
          obtain ⟨rfl, rfl, rfl, hw⟩ := hw
          refine zw_jn3_i (P := fun (x154_1 : Int64) (ai154 : Nat → Nat → Int32) (al154 : Nat → Nat → Int64) => ∀ (H : Heap) (locs : List Loc) (ls : Array Slot), va_P (dC, dI) vwCl (mw cI cJ cG cZ a fi_1 fl ai154 al154) H → va_D A (mw cI cJ cG cZ a fi_1 fl ai154 al154) → va_S A s.heap H locs → lv_has ls 7 [(0, .ref (a 0)), (1, .long x154_1)] → W p l e (headSpec ws_Mo_best ({ frames := 4, cells := 0, slots := 0, locals := 101 })).room s m ([.ref (a 0)] : List Value).toArray below meth c H locs 0 0 (MQ below (va_Ql (fun r (u : zw_Z) => (zw_k_fi_ai_alr fl K) r u.1 u.2.1 u.2.2.1 u.2.2.2) (fun u t => zw_E (dC, dI) vwCl [(cI, .int), (cJ, .long), (cG, .array .int), (cZ, .boolean)] A (mw cI cJ cG cZ a u.1 u.2.1 u.2.2.1 u.2.2.2) t) A) ([.ref (a 0)] : List Value).toArray s 0 0 A) (F0 m 154 ls [])) hw (fun x154_1 ai154 al154 hw H locs ls hP hD hS hl => ?_) (fun J154 hj154 hw => ?_)
          · refine lv_aload_n hx hb d_Mo_best_154 rfl (lv_at hl 0 rfl) ?_
            refine zw_ci (va_runV (As := []) (rest := []) ⟨hx, hb, hml, hown, hts⟩ (c_Mo_nextRow l dC dI cI cJ cG cZ a H.size fi_1 fl ai154 al154 _ hw) (cwV 0 hts (zw_goodV kw_925 kw_927 kw_s41 kw_9 kw_928) rfl rfl rfl hd_Mo_nextRow ⟨Nat.le_of_ble_eq_true rfl, Nat.le_of_ble_eq_true rfl⟩) (zw_preVw (ci := 7) (q0 := 0) hK hN hP hD rfl rfl) rfl rfl hl.1 rfl (lv_room (Nat.le_of_ble_eq_true rfl)) d_Mo_best_155 ⟨Nat.le_of_ble_eq_true rfl, Nat.le_of_ble_eq_true rfl⟩) hD hS hA (fun r155 fi_155 fl_155 ai_155 al_155 H locs hw hP hD hS => ?_)
            obtain ⟨rfl, rfl, rfl, hw⟩ := hw
            refine lv_istore_n (lv' := [(3, .int r155), (0, .ref (a 0)), (1, .long x154_1)]) hx hb d_Mo_best_158 rfl hl (by decide) rfl (fun ls hl => ?_)
            refine lv_goto (tgt := 89) hx hb d_Mo_best_159 (by decide) ?_
            exact (ih89 x154_1 r155 ai_155 al154 hw) H locs ls hP hD hS (lv_sub hl [1, 2, 0] rfl)
          · refine lv_if_eq (tgt := 154) hx hb d_Mo_best_97 (by decide) (fun c97 => ?_) (fun c97 => ?_)
            · have hw := zw_ite_t c97 hw
              exact (hj154 x89_1 ai_94 al89 hw) H locs ls hP hD hS (lv_sub hl [0, 1] rfl)
            · have hw := zw_ite_f c97 hw
              refine lv_aload_n hx hb d_Mo_best_100 rfl (lv_at hl 0 rfl) ?_
              refine zw_cl (va_runV (As := []) (rest := []) ⟨hx, hb, hml, hown, hts⟩ (c_Mo_greatest l dC dI cI cJ cG cZ a H.size fi_1 fl ai_94 al89 _ hw) (cwV 0 hts (zw_goodV kw_921 kw_923 kw_s40 kw_9 kw_924) rfl rfl rfl hd_Mo_greatest ⟨Nat.le_of_ble_eq_true rfl, Nat.le_of_ble_eq_true rfl⟩) (zw_preVw (ci := 7) (q0 := 0) hK hN hP hD rfl rfl) rfl rfl hl.1 rfl (lv_room (Nat.le_of_ble_eq_true rfl)) d_Mo_best_101 ⟨Nat.le_of_ble_eq_true rfl, Nat.le_of_ble_eq_true rfl⟩) hD hS hA (fun r101 fi_101 fl_101 ai_101 al_101 H locs hw hP hD hS => ?_)
              obtain ⟨rfl, rfl, hw⟩ := hw
              refine lv_lstore (lv' := [(4, .long r101), (0, .ref (a 0)), (1, .long x89_1), (3, .int x89_3)]) hx hb d_Mo_best_104 hl (by decide) rfl (fun ls hl => ?_)
              refine lv_lload_n hx hb d_Mo_best_106 rfl (lv_at hl 2 rfl) ?_
              refine lv_lconst (v := (0 : Int64)) hx hb d_Mo_best_107 (by decide) ?_
              refine zw_jn0_i (P := ∀ (H : Heap) (locs : List Loc) (ls : Array Slot), va_P (dC, dI) vwCl (mw cI cJ cG cZ a fi_1 fl ai_101 al_101) H → va_D A (mw cI cJ cG cZ a fi_1 fl ai_101 al_101) → va_S A s.heap H locs → lv_has ls 7 [(0, .ref (a 0)), (4, .long r101)] → W p l e (headSpec ws_Mo_best ({ frames := 4, cells := 0, slots := 0, locals := 101 })).room s m ([.ref (a 0)] : List Value).toArray below meth c H locs 0 0 (MQ below (va_Ql (fun r (u : zw_Z) => (zw_k_fi_ai_alr fl K) r u.1 u.2.1 u.2.2.1 u.2.2.2) (fun u t => zw_E (dC, dI) vwCl [(cI, .int), (cJ, .long), (cG, .array .int), (cZ, .boolean)] A (mw cI cJ cG cZ a u.1 u.2.1 u.2.2.1 u.2.2.2) t) A) ([.ref (a 0)] : List Value).toArray s 0 0 A) (F0 m 119 ls [])) hw (fun hw H locs ls hP hD hS hl => ?_) (fun J119 hj119 hw => ?_)
              · refine lv_lload hx hb d_Mo_best_119 (lv_at hl 1 rfl) ?_
                refine lv_lstore_n (lv' := [(1, .long r101), (0, .ref (a 0)), (4, .long r101)]) hx hb d_Mo_best_121 rfl hl (by decide) rfl (fun ls hl => ?_)
                refine lv_iconst (v := (0 : Int32)) hx hb d_Mo_best_122 (by decide) ?_
                refine lv_topi (fun v123 ev123 => ?_)
                have hw := zw_nm_x ev123 hw
                refine lv_istore (lv' := [(6, .int v123), (1, .long r101), (0, .ref (a 0)), (4, .long r101)]) hx hb d_Mo_best_123 hl (by decide) rfl (fun ls hl => ?_)
                refine (zw_lp2_i (P := fun (x125_6 : Int32) (ai125 : Nat → Nat → Int32) => ∀ (H : Heap) (locs : List Loc) (ls : Array Slot), va_P (dC, dI) vwCl (mw cI cJ cG cZ a fi_1 fl ai125 al_101) H → va_D A (mw cI cJ cG cZ a fi_1 fl ai125 al_101) → va_S A s.heap H locs → lv_has ls 7 [(0, .ref (a 0)), (1, .long r101), (6, .int x125_6)] → W p l e (headSpec ws_Mo_best ({ frames := 4, cells := 0, slots := 0, locals := 101 })).room s m ([.ref (a 0)] : List Value).toArray below meth c H locs 0 0 (MQ below (va_Ql (fun r (u : zw_Z) => (zw_k_fi_ai_alr fl K) r u.1 u.2.1 u.2.2.1 u.2.2.2) (fun u t => zw_E (dC, dI) vwCl [(cI, .int), (cJ, .long), (cG, .array .int), (cZ, .boolean)] A (mw cI cJ cG cZ a u.1 u.2.1 u.2.2.1 u.2.2.2) t) A) ([.ref (a 0)] : List Value).toArray s 0 0 A) (F0 m 125 ls [])) hw (fun L125 x125_6 ai125 ih125 hw H locs ls hP hD hS hl => ?_)) H locs ls hP hD hS (lv_sub hl [2, 1, 0] rfl)
                refine lv_iload hx hb d_Mo_best_125 (lv_at hl 2 rfl) ?_
                refine lv_aload_n hx hb d_Mo_best_127 rfl (lv_at hl 0 rfl) ?_
                refine va_get (D := (dC, dI)) (ci := 7) (v := .int (fi_1 8)) (C := R_Mo) (T := T_Mo) (N := 36) hx hb ht in_Mo hown hK hP 0 rfl rfl 28 (by decide) (ht _ kw_641) (fun _ h9 => h9) rfl d_Mo_best_128 ?_
                refine lv_icmp_ge (tgt := 154) hx hb d_Mo_best_131 (by decide) (fun c131 => ?_) (fun c131 => ?_)
                · have hw := zw_ite_t c131 hw
                  exact (hj154 r101 ai125 al_101 hw) H locs ls hP hD hS (lv_sub hl [0, 1] rfl)
                · have hw := zw_ite_f c131 hw
                  refine lv_aload_n hx hb d_Mo_best_134 rfl (lv_at hl 0 rfl) ?_
                  refine va_get (D := (dC, dI)) (ci := 7) (v := .ref (a 26)) (C := R_Mo) (T := T_Mo) (N := 36) hx hb ht in_Mo hown hK hP 0 rfl rfl 34 (by decide) (ht _ kw_647) (fun _ h9 => h9) rfl d_Mo_best_135 ?_
                  refine lv_iload hx hb d_Mo_best_138 (lv_at hl 2 rfl) ?_
                  refine lv_aload_n hx hb d_Mo_best_140 rfl (lv_at hl 0 rfl) ?_
                  refine va_get (D := (dC, dI)) (ci := 7) (v := .ref (a 20)) (C := R_Mo) (T := T_Mo) (N := 36) hx hb ht in_Mo hown hK hP 0 rfl rfl 27 (by decide) (ht _ kw_640) (fun _ h9 => h9) rfl d_Mo_best_141 ?_
                  refine lv_iload hx hb d_Mo_best_144 (lv_at hl 2 rfl) ?_
                  obtain ⟨h146, hw⟩ := hw
                  refine va_iald (f := ai125 20) hx hb hK hP 20 0 rfl rfl h146 d_Mo_best_146 ?_
                  obtain ⟨h147, hw⟩ := hw
                  refine va_iast (f := ai125 26) hx hb hK hP hD hS 26 0 rfl rfl h147 d_Mo_best_147 (fun H locs hP hD hS => ?_)
                  have hP := mwpai_26 hP
                  have hD := mwdai_26 hD
                  obtain ⟨ai_147, eai_147⟩ : ∃ z, z = va_up ai125 26 (upd (ai125 26) x125_6.toNatClampNeg (ai125 20 x125_6.toNatClampNeg)) := ⟨_, rfl⟩
                  rw [← eai_147] at hP hD
                  have hw := zw_nm_x eai_147 hw
                  obtain ⟨v148, ev148⟩ : ∃ y : Int32, y = x125_6 + (1 : Int32) := ⟨_, rfl⟩
                  refine lv_iinc (v := v148) (lv' := [(6, .int v148), (0, .ref (a 0)), (1, .long r101)]) hx hb d_Mo_best_148 hl (k := 2) rfl (by rw [ev148]; rfl) (by decide) rfl (fun ls hl => ?_)
                  have hw := zw_nm_x ev148 hw
                  refine lv_goto (tgt := 125) hx hb d_Mo_best_151 (by decide) ?_
                  exact (ih125 v148 ai_147 hw) H locs ls hP hD hS (lv_sub hl [1, 2, 0] rfl)
              · refine W.lcmp hx hb d_Mo_best_108 ?_
                refine lv_if_lt (tgt := 119) hx hb d_Mo_best_109 (by decide) (fun c109 => ?_) (fun c109 => ?_)
                · have hw := zw_ite_t (zw_lg_lt.mp c109) hw
                  exact (hj119  hw) H locs ls hP hD hS (lv_sub hl [1, 0] rfl)
                · have hw := zw_ite_f (mt zw_lg_lt.mpr c109) hw
                  refine lv_lload hx hb d_Mo_best_112 (lv_at hl 0 rfl) ?_
                  refine lv_lload_n hx hb d_Mo_best_114 rfl (lv_at hl 2 rfl) ?_
                  refine W.lcmp hx hb d_Mo_best_115 ?_
                  refine lv_if_ge (tgt := 154) hx hb d_Mo_best_116 (by decide) (fun c116 => ?_) (fun c116 => ?_)
                  · have hw := zw_ite_t (zw_lg_ge.mp c116) hw
                    exact (hj154 x89_1 ai_101 al_101 hw) H locs ls hP hD hS (lv_sub hl [1, 2] rfl)
                  · have hw := zw_ite_f (mt zw_lg_ge.mpr c116) hw
                    exact (hj119  hw) H locs ls hP hD hS (lv_sub hl [1, 0] rfl)
      · have hw := zw_ite_f c22 hw
        refine lv_aload_n hx hb d_Mo_best_25 rfl (lv_at hl 0 rfl) ?_
        refine va_get (D := (dC, dI)) (ci := 7) (v := .ref (a 20)) (C := R_Mo) (T := T_Mo) (N := 36) hx hb ht in_Mo hown hK hP 0 rfl rfl 27 (by decide) (ht _ kw_640) (fun _ h9 => h9) rfl d_Mo_best_26 ?_
        refine lv_iload_n hx hb d_Mo_best_29 rfl (lv_at hl 1 rfl) ?_
        obtain ⟨h30, hw⟩ := hw
        refine va_iald (f := ai17 20) hx hb hK hP 20 0 rfl rfl h30 d_Mo_best_30 ?_
        refine lv_topi (fun v31 ev31 => ?_)
        have hw := zw_nm_x ev31 hw
        refine lv_istore_n (lv' := [(2, .int v31), (0, .ref (a 0)), (1, .int x17_1)]) hx hb d_Mo_best_31 rfl hl (by decide) rfl (fun ls hl => ?_)
        refine lv_iload_n hx hb d_Mo_best_32 rfl (lv_at hl 2 rfl) ?_
        refine lv_istore_n (lv' := [(3, .int x17_1), (2, .int v31), (0, .ref (a 0)), (1, .int x17_1)]) hx hb d_Mo_best_33 rfl hl (by decide) rfl (fun ls hl => ?_)
        refine (zw_lp2_i (P := fun (x34_3 : Int32) (ai34 : Nat → Nat → Int32) => ∀ (H : Heap) (locs : List Loc) (ls : Array Slot), va_P (dC, dI) vwCl (mw cI cJ cG cZ a fi_1 fl ai34 al) H → va_D A (mw cI cJ cG cZ a fi_1 fl ai34 al) → va_S A s.heap H locs → lv_has ls 7 [(0, .ref (a 0)), (1, .int x17_1), (2, .int v31), (3, .int x34_3)] → W p l e (headSpec ws_Mo_best ({ frames := 4, cells := 0, slots := 0, locals := 101 })).room s m ([.ref (a 0)] : List Value).toArray below meth c H locs 0 0 (MQ below (va_Ql (fun r (u : zw_Z) => (zw_k_fi_ai_alr fl K) r u.1 u.2.1 u.2.2.1 u.2.2.2) (fun u t => zw_E (dC, dI) vwCl [(cI, .int), (cJ, .long), (cG, .array .int), (cZ, .boolean)] A (mw cI cJ cG cZ a u.1 u.2.1 u.2.2.1 u.2.2.2) t) A) ([.ref (a 0)] : List Value).toArray s 0 0 A) (F0 m 34 ls [])) hw (fun L34 x34_3 ai34 ih34 hw H locs ls hP hD hS hl => ?_)) H locs ls hP hD hS (lv_sub hl [2, 3, 1, 0] rfl)
        refine lv_iload_n hx hb d_Mo_best_34 rfl (lv_at hl 3 rfl) ?_
        refine zw_jn0_i (P := ∀ (H : Heap) (locs : List Loc) (ls : Array Slot), va_P (dC, dI) vwCl (mw cI cJ cG cZ a fi_1 fl ai34 al) H → va_D A (mw cI cJ cG cZ a fi_1 fl ai34 al) → va_S A s.heap H locs → lv_has ls 7 [(0, .ref (a 0)), (1, .int x17_1), (2, .int v31), (3, .int x34_3)] → W p l e (headSpec ws_Mo_best ({ frames := 4, cells := 0, slots := 0, locals := 101 })).room s m ([.ref (a 0)] : List Value).toArray below meth c H locs 0 0 (MQ below (va_Ql (fun r (u : zw_Z) => (zw_k_fi_ai_alr fl K) r u.1 u.2.1 u.2.2.1 u.2.2.2) (fun u t => zw_E (dC, dI) vwCl [(cI, .int), (cJ, .long), (cG, .array .int), (cZ, .boolean)] A (mw cI cJ cG cZ a u.1 u.2.1 u.2.2.1 u.2.2.2) t) A) ([.ref (a 0)] : List Value).toArray s 0 0 A) (F0 m 70 ls [])) hw (fun hw H locs ls hP hD hS hl => ?_) (fun J70 hj70 hw => ?_)
        · refine lv_aload_n hx hb d_Mo_best_70 rfl (lv_at hl 0 rfl) ?_
          refine va_get (D := (dC, dI)) (ci := 7) (v := .ref (a 20)) (C := R_Mo) (T := T_Mo) (N := 36) hx hb ht in_Mo hown hK hP 0 rfl rfl 27 (by decide) (ht _ kw_640) (fun _ h9 => h9) rfl d_Mo_best_71 ?_
          refine lv_iload_n hx hb d_Mo_best_74 rfl (lv_at hl 3 rfl) ?_
          refine lv_iload_n hx hb d_Mo_best_75 rfl (lv_at hl 2 rfl) ?_
          obtain ⟨h76, hw⟩ := hw
          refine va_iast (f := ai34 20) hx hb hK hP hD hS 20 0 rfl rfl h76 d_Mo_best_76 (fun H locs hP hD hS => ?_)
          have hP := mwpai_20 hP
          have hD := mwdai_20 hD
          obtain ⟨ai_76, eai_76⟩ : ∃ z, z = va_up ai34 20 (upd (ai34 20) x34_3.toNatClampNeg v31) := ⟨_, rfl⟩
          rw [← eai_76] at hP hD
          have hw := zw_nm_x eai_76 hw
          obtain ⟨v77, ev77⟩ : ∃ y : Int32, y = x17_1 + (1 : Int32) := ⟨_, rfl⟩
          refine lv_iinc (v := v77) (lv' := [(1, .int v77), (0, .ref (a 0)), (2, .int v31), (3, .int x34_3)]) hx hb d_Mo_best_77 hl (k := 1) rfl (by rw [ev77]; rfl) (by decide) rfl (fun ls hl => ?_)
          have hw := zw_nm_x ev77 hw
          refine lv_goto (tgt := 17) hx hb d_Mo_best_80 (by decide) ?_
          exact (ih17 v77 ai_76 hw) H locs ls hP hD hS (lv_sub hl [1, 0] rfl)
        · refine lv_if_le (tgt := 70) hx hb d_Mo_best_35 (by decide) (fun c35 => ?_) (fun c35 => ?_)
          · have hw := zw_ite_t c35 hw
            exact (hj70  hw) H locs ls hP hD hS (lv_sub hl [0, 1, 2, 3] rfl)
          · have hw := zw_ite_f c35 hw
            refine lv_aload_n hx hb d_Mo_best_38 rfl (lv_at hl 0 rfl) ?_
            refine va_get (D := (dC, dI)) (ci := 7) (v := .ref (a 20)) (C := R_Mo) (T := T_Mo) (N := 36) hx hb ht in_Mo hown hK hP 0 rfl rfl 27 (by decide) (ht _ kw_640) (fun _ h9 => h9) rfl d_Mo_best_39 ?_
            refine lv_iload_n hx hb d_Mo_best_42 rfl (lv_at hl 3 rfl) ?_
            refine lv_iconst (v := (1 : Int32)) hx hb d_Mo_best_43 (by decide) ?_
            refine lv_isub hx hb d_Mo_best_44 ?_
            obtain ⟨h45, hw⟩ := hw
            refine va_iald (f := ai34 20) hx hb hK hP 20 0 rfl rfl h45 d_Mo_best_45 ?_
            refine lv_iload_n hx hb d_Mo_best_46 rfl (lv_at hl 2 rfl) ?_
            refine lv_icmp_le (tgt := 70) hx hb d_Mo_best_47 (by decide) (fun c47 => ?_) (fun c47 => ?_)
            · have hw := zw_ite_t c47 hw
              exact (hj70  hw) H locs ls hP hD hS (lv_sub hl [0, 1, 2, 3] rfl)
            · have hw := zw_ite_f c47 hw
              refine lv_aload_n hx hb d_Mo_best_50 rfl (lv_at hl 0 rfl) ?_
              refine va_get (D := (dC, dI)) (ci := 7) (v := .ref (a 20)) (C := R_Mo) (T := T_Mo) (N := 36) hx hb ht in_Mo hown hK hP 0 rfl rfl 27 (by decide) (ht _ kw_640) (fun _ h9 => h9) rfl d_Mo_best_51 ?_
              refine lv_iload_n hx hb d_Mo_best_54 rfl (lv_at hl 3 rfl) ?_
              refine lv_aload_n hx hb d_Mo_best_55 rfl (lv_at hl 0 rfl) ?_
              refine va_get (D := (dC, dI)) (ci := 7) (v := .ref (a 20)) (C := R_Mo) (T := T_Mo) (N := 36) hx hb ht in_Mo hown hK hP 0 rfl rfl 27 (by decide) (ht _ kw_640) (fun _ h9 => h9) rfl d_Mo_best_56 ?_
              refine lv_iload_n hx hb d_Mo_best_59 rfl (lv_at hl 3 rfl) ?_
              refine lv_iconst (v := (1 : Int32)) hx hb d_Mo_best_60 (by decide) ?_
              refine lv_isub hx hb d_Mo_best_61 ?_
              obtain ⟨h62, hw⟩ := hw
              refine va_iald (f := ai34 20) hx hb hK hP 20 0 rfl rfl h62 d_Mo_best_62 ?_
              obtain ⟨h63, hw⟩ := hw
              refine va_iast (f := ai34 20) hx hb hK hP hD hS 20 0 rfl rfl h63 d_Mo_best_63 (fun H locs hP hD hS => ?_)
              have hP := mwpai_20 hP
              have hD := mwdai_20 hD
              obtain ⟨ai_63, eai_63⟩ : ∃ z, z = va_up ai34 20 (upd (ai34 20) x34_3.toNatClampNeg (ai34 20 (x34_3 - (1 : Int32)).toNatClampNeg)) := ⟨_, rfl⟩
              rw [← eai_63] at hP hD
              have hw := zw_nm_x eai_63 hw
              obtain ⟨v64, ev64⟩ : ∃ y : Int32, y = x34_3 + (-1 : Int32) := ⟨_, rfl⟩
              refine lv_iinc (v := v64) (lv' := [(3, .int v64), (0, .ref (a 0)), (1, .int x17_1), (2, .int v31)]) hx hb d_Mo_best_64 hl (k := 3) rfl (by rw [ev64]; rfl) (by decide) rfl (fun ls hl => ?_)
              have hw := zw_nm_x ev64 hw
              refine lv_goto (tgt := 34) hx hb d_Mo_best_67 (by decide) ?_
              exact (ih34 v64 ai_63 hw) H locs ls hP hD hS (lv_sub hl [1, 2, 3, 0] rfl)
    · have hw := zw_ite_t c8 hw
      refine lv_ldc2 (v := (-1000000000000000000 : Int64)) hx hb hown (hts (.constantLong R_Mo 148 (-1000000000000000000 : Int64)) (by decide +kernel)) d_Mo_best_11 ?_
      exact W.lret (v := (-1000000000000000000 : Int64)) hx hb hr (fun t ht hW => ⟨⟨(-1000000000000000000 : Int64), (fi_1, fl, ai_1, al), rfl, ⟨rfl, hw⟩, by rw [ht]; exact hP, va_K.moved hW.alike hK, hD⟩, hS.F ht⟩) hS.2.2 d_Mo_best_14
  rw [hH, hlo] at key
  exact key
def Mo_order_w (fi : Nat → Int32) (fl : Nat → Int64) (ai : Nat → Nat → Int32) (al : Nat → Nat → Int64) (p0 : Int32) (K : Int64 → Prop) : Prop :=
  Mo_in_w p0.toInt64 (0 : Int64) (((fi 7) - (1 : Int32)).toInt64) (fun (r10 : Int32) =>
  if r10 = 0 then (
    K (-1000000000000000000 : Int64))
  else (
    vp_in p0 6 ∧ (
    K ((ai 19 p0.toNatClampNeg).toInt64))))
theorem d_Mo_order_0 : decode b_Mo_order 0 = .ok (.iload_n 1, 1) := by decide +kernel
theorem d_Mo_order_1 : decode b_Mo_order 1 = .ok (.i2l, 1) := by decide +kernel
theorem d_Mo_order_2 : decode b_Mo_order 2 = .ok (.lconst 0, 1) := by decide +kernel
theorem d_Mo_order_3 : decode b_Mo_order 3 = .ok (.aload_n 0, 1) := by decide +kernel
theorem d_Mo_order_4 : decode b_Mo_order 4 = .ok (.getfield 240, 3) := by decide +kernel
theorem d_Mo_order_7 : decode b_Mo_order 7 = .ok (.iconst 1, 1) := by decide +kernel
theorem d_Mo_order_8 : decode b_Mo_order 8 = .ok (.isub, 1) := by decide +kernel
theorem d_Mo_order_9 : decode b_Mo_order 9 = .ok (.i2l, 1) := by decide +kernel
theorem d_Mo_order_10 : decode b_Mo_order 10 = .ok (.invokestatic 103, 3) := by decide +kernel
theorem d_Mo_order_13 : decode b_Mo_order 13 = .ok (.ifCond .eq (13), 3) := by decide +kernel
theorem d_Mo_order_16 : decode b_Mo_order 16 = .ok (.aload_n 0, 1) := by decide +kernel
theorem d_Mo_order_17 : decode b_Mo_order 17 = .ok (.getfield 73, 3) := by decide +kernel
theorem d_Mo_order_20 : decode b_Mo_order 20 = .ok (.iload_n 1, 1) := by decide +kernel
theorem d_Mo_order_21 : decode b_Mo_order 21 = .ok (.iaload, 1) := by decide +kernel
theorem d_Mo_order_22 : decode b_Mo_order 22 = .ok (.i2l, 1) := by decide +kernel
theorem d_Mo_order_23 : decode b_Mo_order 23 = .ok (.goto (6), 3) := by decide +kernel
theorem d_Mo_order_26 : decode b_Mo_order 26 = .ok (.ldc2_w 148, 3) := by decide +kernel
theorem d_Mo_order_29 : decode b_Mo_order 29 = .ok (.lreturn, 1) := by decide +kernel
set_option maxHeartbeats 4000000 in
set_option maxRecDepth 100000 in
theorem c_Mo_order (l : Launch) (dC : Nat → ClassId) (dI : Nat → Nat → Nat) (cI cJ cG cZ : ClassId) (a : Nat → Nat) (fi : Nat → Int32) (fl : Nat → Int64) (ai : Nat → Nat → Int32) (al : Nat → Nat → Int64) (p0 : Int32) (K : Int64 → Prop) (hw : Mo_order_w fi fl ai al p0 K) : Met l y_Mo_order ws_Mo_order ({ frames := 1, cells := 0, slots := 0, locals := 25 }) (va_Pc [.ref (a 0), .int p0] (zw_B (dC, dI) vwCl [(cI, .int), (cJ, .long), (cG, .array .int), (cZ, .boolean)] (mw cI cJ cG cZ a fi fl ai al))) (vp_Sl K) 0 0 (fun _ => False) := by
  refine Met.ofW (cc := b_Mo_order) (maxL := 2) (ret := (Option.some FieldType.long)) (by decide) rfl ?_
  intro p e s m args below meth c s₁ B hml hv
  obtain ⟨rfl, hP, hK, hN⟩ := hv
  have hx := B.exec
  have hb := B.bytes
  have hr := B.returns
  have hts := atoms_spec (ws := ws_Mo_order) B.pre
  have ht : ∀ w ∈ zw_tbl, w.before _ s = true := fun w h => hts w (List.mem_cons_of_mem _ h)
  have hown : s.vm.findClass R_Mo = some m.cls := findClass_of_methodNamed B.named
  have hlocks := B.notSynchronized
  have hl := lv_entry ([.ref (a 0), .int p0] : List Value) (n := 2) (Nat.le_of_ble_eq_true rfl)
  rw [lg_entry_eq]
  generalize (lg_sl ([.ref (a 0), .int p0] : List Value) ++ List.replicate (2 - (lg_sl ([.ref (a 0), .int p0] : List Value)).length) Slot.unset).toArray = ls at hl ⊢
  have hl : lv_has ls 2 [(0, .ref (a 0)), (1, .int p0)] := hl
  unfold Mo_order_w at hw
  refine lv_iload_n hx hb d_Mo_order_0 rfl (lv_at hl 1 rfl) ?_
  refine lv_i2l hx hb d_Mo_order_1 rfl ?_
  refine lv_lconst (v := (0 : Int64)) hx hb d_Mo_order_2 (by decide) ?_
  refine lv_aload_n hx hb d_Mo_order_3 rfl (lv_at hl 0 rfl) ?_
  refine va_get (D := (dC, dI)) (ci := 7) (v := .int (fi 7)) (C := R_Mo) (T := T_Mo) (N := 36) hx hb ht in_Mo hown hK hP 0 rfl rfl 26 (by decide) (ht _ kw_639) (fun _ h9 => h9) rfl d_Mo_order_4 ?_
  refine lv_iconst (v := (1 : Int32)) hx hb d_Mo_order_7 (by decide) ?_
  refine lv_isub hx hb d_Mo_order_8 ?_
  refine lv_i2l hx hb d_Mo_order_9 rfl ?_
  refine vp_callSi (va_Run.run (va_runS (As := [.long p0.toInt64, .long (0 : Int64), .long ((fi 7) - (1 : Int32)).toInt64]) (rest := []) ⟨hx, hb, hml, hown, hts⟩ (c_Mo_in l p0.toInt64 (0 : Int64) (((fi 7) - (1 : Int32)).toInt64) _ hw) (va_cwS 3 hts (zw_goodS kw_731 kw_732 kw_9 kw_733) rfl rfl rfl hd_Mo_in.2 ⟨Nat.le_of_ble_eq_true rfl, Nat.le_of_ble_eq_true rfl⟩) zw_preS0 rfl rfl hl.1 rfl (lv_room (Nat.le_of_ble_eq_true rfl)) d_Mo_order_10 ⟨Nat.le_of_ble_eq_true rfl, Nat.le_of_ble_eq_true rfl⟩)) (fun r10 hw => ?_)
  refine lv_if_eq (tgt := 26) hx hb d_Mo_order_13 (by decide) (fun c13 => ?_) (fun c13 => ?_)
  · have hw := zw_ite_t c13 hw
    refine lv_ldc2 (v := (-1000000000000000000 : Int64)) hx hb hown (hts (.constantLong R_Mo 148 (-1000000000000000000 : Int64)) (by decide +kernel)) d_Mo_order_26 ?_
    exact W.lret (v := (-1000000000000000000 : Int64)) hx hb hr (fun t ht hW => ⟨(-1000000000000000000 : Int64), rfl, hw, ht⟩) t_nil d_Mo_order_29
  · have hw := zw_ite_f c13 hw
    refine lv_aload_n hx hb d_Mo_order_16 rfl (lv_at hl 0 rfl) ?_
    refine va_get (D := (dC, dI)) (ci := 7) (v := .ref (a 19)) (C := R_Mo) (T := T_Mo) (N := 36) hx hb ht in_Mo hown hK hP 0 rfl rfl 25 (by decide) (ht _ kw_638) (fun _ h9 => h9) rfl d_Mo_order_17 ?_
    refine lv_iload_n hx hb d_Mo_order_20 rfl (lv_at hl 1 rfl) ?_
    obtain ⟨h21, hw⟩ := hw
    refine va_iald (f := ai 19) hx hb hK hP 19 0 rfl rfl h21 d_Mo_order_21 ?_
    refine lv_i2l hx hb d_Mo_order_22 rfl ?_
    refine lv_goto (tgt := 29) hx hb d_Mo_order_23 (by decide) ?_
    exact W.lret (v := (ai 19 p0.toNatClampNeg).toInt64) hx hb hr (fun t ht hW => ⟨(ai 19 p0.toNatClampNeg).toInt64, rfl, hw, ht⟩) t_nil d_Mo_order_29
def Mo_told_w (fi : Nat → Int32) (fl : Nat → Int64) (ai : Nat → Nat → Int32) (al : Nat → Nat → Int64) (p0 : Int32) (K : Int64 → (Nat → Int32) → (Nat → Nat → Int32) → Prop) : Prop :=
  Mo_takePlan_w fi fl ai al  (fun (fi_1 : Nat → Int32) (ai_1 : Nat → Nat → Int32) =>
  if p0 = (0 : Int32) then (
    K ((fi_1 2).toInt64) fi_1 ai_1)
  else (if p0 = (1 : Int32) then (
    K ((fi_1 3).toInt64) fi_1 ai_1)
  else (if p0 = (2 : Int32) then (
    K ((fi_1 8).toInt64) fi_1 ai_1)
  else (if p0 = (3 : Int32) then (
    Mo_isOn_w fi_1 fl ai_1 al (0 : Int32) (fun (r64 : Int32) =>
    zw_jn1 (fun (y75_0 : Int32) =>
    Mo_isOn_w fi_1 fl ai_1 al (1 : Int32) (fun (r77 : Int32) =>
    zw_jn1 (fun (y88_0 : Int32) =>
    Mo_isOn_w fi_1 fl ai_1 al (2 : Int32) (fun (r91 : Int32) =>
    if r91 = 0 then (
      K (((y75_0 + y88_0) + (0 : Int32)).toInt64) fi_1 ai_1)
    else (
      K (((y75_0 + y88_0) + (4 : Int32)).toInt64) fi_1 ai_1))) (fun J88 =>
    if r77 = 0 then (
      J88 (0 : Int32))
    else (
      J88 (2 : Int32))))) (fun J75 =>
    if r64 = 0 then (
      J75 (0 : Int32))
    else (
      J75 (1 : Int32)))))
  else (if p0 = (4 : Int32) then (
    K ((fi_1 6).toInt64) fi_1 ai_1)
  else (if p0 = (5 : Int32) then (
    if (fi_1 2) = 0 then (
      K (-1000000000000000000 : Int64) fi_1 ai_1)
    else (
      Mo_endDay_w fi_1 fl ai_1 al  (fun (r125 : Int32) =>
      K r125.toInt64 fi_1 ai_1)))
  else (
    K (-1000000000000000000 : Int64) fi_1 ai_1)))))))
theorem d_Mo_told_0 : decode b_Mo_told 0 = .ok (.aload_n 0, 1) := by decide +kernel
theorem d_Mo_told_1 : decode b_Mo_told 1 = .ok (.invokevirtual 191, 3) := by decide +kernel
theorem d_Mo_told_4 : decode b_Mo_told 4 = .ok (.iload_n 1, 1) := by decide +kernel
theorem d_Mo_told_5 : decode b_Mo_told 5 = .ok (.tableswitch (125) (0) (5) #[39, 45, 51, 57, 100, 106], 39) := by decide +kernel
theorem d_Mo_told_44 : decode b_Mo_told 44 = .ok (.aload_n 0, 1) := by decide +kernel
theorem d_Mo_told_45 : decode b_Mo_told 45 = .ok (.getfield 107, 3) := by decide +kernel
theorem d_Mo_told_48 : decode b_Mo_told 48 = .ok (.i2l, 1) := by decide +kernel
theorem d_Mo_told_49 : decode b_Mo_told 49 = .ok (.lreturn, 1) := by decide +kernel
theorem d_Mo_told_50 : decode b_Mo_told 50 = .ok (.aload_n 0, 1) := by decide +kernel
theorem d_Mo_told_51 : decode b_Mo_told 51 = .ok (.getfield 133, 3) := by decide +kernel
theorem d_Mo_told_54 : decode b_Mo_told 54 = .ok (.i2l, 1) := by decide +kernel
theorem d_Mo_told_55 : decode b_Mo_told 55 = .ok (.lreturn, 1) := by decide +kernel
theorem d_Mo_told_56 : decode b_Mo_told 56 = .ok (.aload_n 0, 1) := by decide +kernel
theorem d_Mo_told_57 : decode b_Mo_told 57 = .ok (.getfield 165, 3) := by decide +kernel
theorem d_Mo_told_60 : decode b_Mo_told 60 = .ok (.i2l, 1) := by decide +kernel
theorem d_Mo_told_61 : decode b_Mo_told 61 = .ok (.lreturn, 1) := by decide +kernel
theorem d_Mo_told_62 : decode b_Mo_told 62 = .ok (.aload_n 0, 1) := by decide +kernel
theorem d_Mo_told_63 : decode b_Mo_told 63 = .ok (.iconst 0, 1) := by decide +kernel
theorem d_Mo_told_64 : decode b_Mo_told 64 = .ok (.invokevirtual 161, 3) := by decide +kernel
theorem d_Mo_told_67 : decode b_Mo_told 67 = .ok (.ifCond .eq (7), 3) := by decide +kernel
theorem d_Mo_told_70 : decode b_Mo_told 70 = .ok (.iconst 1, 1) := by decide +kernel
theorem d_Mo_told_71 : decode b_Mo_told 71 = .ok (.goto (4), 3) := by decide +kernel
theorem d_Mo_told_74 : decode b_Mo_told 74 = .ok (.iconst 0, 1) := by decide +kernel
theorem d_Mo_told_75 : decode b_Mo_told 75 = .ok (.aload_n 0, 1) := by decide +kernel
theorem d_Mo_told_76 : decode b_Mo_told 76 = .ok (.iconst 1, 1) := by decide +kernel
theorem d_Mo_told_77 : decode b_Mo_told 77 = .ok (.invokevirtual 161, 3) := by decide +kernel
theorem d_Mo_told_80 : decode b_Mo_told 80 = .ok (.ifCond .eq (7), 3) := by decide +kernel
theorem d_Mo_told_83 : decode b_Mo_told 83 = .ok (.iconst 2, 1) := by decide +kernel
theorem d_Mo_told_84 : decode b_Mo_told 84 = .ok (.goto (4), 3) := by decide +kernel
theorem d_Mo_told_87 : decode b_Mo_told 87 = .ok (.iconst 0, 1) := by decide +kernel
theorem d_Mo_told_88 : decode b_Mo_told 88 = .ok (.iadd, 1) := by decide +kernel
theorem d_Mo_told_89 : decode b_Mo_told 89 = .ok (.aload_n 0, 1) := by decide +kernel
theorem d_Mo_told_90 : decode b_Mo_told 90 = .ok (.iconst 2, 1) := by decide +kernel
theorem d_Mo_told_91 : decode b_Mo_told 91 = .ok (.invokevirtual 161, 3) := by decide +kernel
theorem d_Mo_told_94 : decode b_Mo_told 94 = .ok (.ifCond .eq (7), 3) := by decide +kernel
theorem d_Mo_told_97 : decode b_Mo_told 97 = .ok (.iconst 4, 1) := by decide +kernel
theorem d_Mo_told_98 : decode b_Mo_told 98 = .ok (.goto (4), 3) := by decide +kernel
theorem d_Mo_told_101 : decode b_Mo_told 101 = .ok (.iconst 0, 1) := by decide +kernel
theorem d_Mo_told_102 : decode b_Mo_told 102 = .ok (.iadd, 1) := by decide +kernel
theorem d_Mo_told_103 : decode b_Mo_told 103 = .ok (.i2l, 1) := by decide +kernel
theorem d_Mo_told_104 : decode b_Mo_told 104 = .ok (.lreturn, 1) := by decide +kernel
theorem d_Mo_told_105 : decode b_Mo_told 105 = .ok (.aload_n 0, 1) := by decide +kernel
theorem d_Mo_told_106 : decode b_Mo_told 106 = .ok (.getfield 222, 3) := by decide +kernel
theorem d_Mo_told_109 : decode b_Mo_told 109 = .ok (.i2l, 1) := by decide +kernel
theorem d_Mo_told_110 : decode b_Mo_told 110 = .ok (.lreturn, 1) := by decide +kernel
theorem d_Mo_told_111 : decode b_Mo_told 111 = .ok (.aload_n 0, 1) := by decide +kernel
theorem d_Mo_told_112 : decode b_Mo_told 112 = .ok (.getfield 107, 3) := by decide +kernel
theorem d_Mo_told_115 : decode b_Mo_told 115 = .ok (.ifCond .ne (9), 3) := by decide +kernel
theorem d_Mo_told_118 : decode b_Mo_told 118 = .ok (.ldc2_w 148, 3) := by decide +kernel
theorem d_Mo_told_121 : decode b_Mo_told 121 = .ok (.goto (8), 3) := by decide +kernel
theorem d_Mo_told_124 : decode b_Mo_told 124 = .ok (.aload_n 0, 1) := by decide +kernel
theorem d_Mo_told_125 : decode b_Mo_told 125 = .ok (.invokevirtual 178, 3) := by decide +kernel
theorem d_Mo_told_128 : decode b_Mo_told 128 = .ok (.i2l, 1) := by decide +kernel
theorem d_Mo_told_129 : decode b_Mo_told 129 = .ok (.lreturn, 1) := by decide +kernel
theorem d_Mo_told_130 : decode b_Mo_told 130 = .ok (.ldc2_w 148, 3) := by decide +kernel
theorem d_Mo_told_133 : decode b_Mo_told 133 = .ok (.lreturn, 1) := by decide +kernel
set_option maxHeartbeats 4000000 in
set_option maxRecDepth 100000 in
theorem c_Mo_told (l : Launch) (dC : Nat → ClassId) (dI : Nat → Nat → Nat) (cI cJ cG cZ : ClassId) (a : Nat → Nat) (sz : Nat) (fi : Nat → Int32) (fl : Nat → Int64) (ai : Nat → Nat → Int32) (al : Nat → Nat → Int64) (p0 : Int32) (K : Int64 → (Nat → Int32) → (Nat → Nat → Int32) → Prop) (hw : Mo_told_w fi fl ai al p0 K) : Met l y_Mo_told ws_Mo_told ({ frames := 2, cells := 0, slots := 0, locals := 40 }) (va_Pc [.ref (a 0), .int p0] (zw_Bw (dC, dI) vwCl [(cI, .int), (cJ, .long), (cG, .array .int), (cZ, .boolean)] (mw cI cJ cG cZ a fi fl ai al) sz)) (va_Ql (fun r (u : zw_Z) => (zw_k_fi_air fl al K) r u.1 u.2.1 u.2.2.1 u.2.2.2) (fun u t => zw_E (dC, dI) vwCl [(cI, .int), (cJ, .long), (cG, .array .int), (cZ, .boolean)] (va_A (mw cI cJ cG cZ a fi fl ai al) sz) (mw cI cJ cG cZ a u.1 u.2.1 u.2.2.1 u.2.2.2) t) (va_A (mw cI cJ cG cZ a fi fl ai al) sz)) 0 0 (va_A (mw cI cJ cG cZ a fi fl ai al) sz) := by
  refine Met.ofW (cc := b_Mo_told) (maxL := 2) (ret := (Option.some FieldType.long)) (by decide) rfl ?_
  intro p e s m args below meth c s₁ B hml hv
  obtain ⟨rfl, hsz, hP, hK, hD0, hN⟩ := hv
  have hx := B.exec
  have hb := B.bytes
  have hr := B.returns
  have hts := atoms_spec (ws := ws_Mo_told) B.pre
  have ht : ∀ w ∈ zw_tbl, w.before _ s = true := fun w h => hts w (List.mem_cons_of_mem _ h)
  have hown : s.vm.findClass R_Mo = some m.cls := findClass_of_methodNamed B.named
  have hlocks := B.notSynchronized
  subst hsz
  have hD := hD0.self (sz := s.heap.size)
  generalize hAe : va_A (mw cI cJ cG cZ a fi fl ai al) s.heap.size = A at hD ⊢
  have hA : ∀ q : Nat, s.heap.size ≤ q → A q := fun q h => by rw [← hAe]; exact Or.inr h
  have hS : va_S A s.heap s.heap [] := va_S.rf
  have hl := lv_entry ([.ref (a 0), .int p0] : List Value) (n := 2) (Nat.le_of_ble_eq_true rfl)
  rw [lg_entry_eq]
  generalize (lg_sl ([.ref (a 0), .int p0] : List Value) ++ List.replicate (2 - (lg_sl ([.ref (a 0), .int p0] : List Value)).length) Slot.unset).toArray = ls at hl ⊢
  have hl : lv_has ls 2 [(0, .ref (a 0)), (1, .int p0)] := hl
  unfold Mo_told_w at hw
  obtain ⟨H, hH⟩ : ∃ H, H = s.heap := ⟨_, rfl⟩
  obtain ⟨locs, hlo⟩ : ∃ q : List Loc, q = [] := ⟨_, rfl⟩
  have hP : va_P (dC, dI) vwCl (mw cI cJ cG cZ a fi fl ai al) H := by rw [hH]; exact hP
  have hS : va_S A s.heap H locs := by rw [hH, hlo]; exact hS
  have key : W p l e (headSpec ws_Mo_told ({ frames := 2, cells := 0, slots := 0, locals := 40 })).room s m ([.ref (a 0), .int p0] : List Value).toArray below meth c H locs 0 0 (MQ below (va_Ql (fun r (u : zw_Z) => (zw_k_fi_air fl al K) r u.1 u.2.1 u.2.2.1 u.2.2.2) (fun u t => zw_E (dC, dI) vwCl [(cI, .int), (cJ, .long), (cG, .array .int), (cZ, .boolean)] A (mw cI cJ cG cZ a u.1 u.2.1 u.2.2.1 u.2.2.2) t) A) ([.ref (a 0), .int p0] : List Value).toArray s 0 0 A) (F0 m 0 ls []) := by
    refine lv_aload_n hx hb d_Mo_told_0 rfl (lv_at hl 0 rfl) ?_
    refine zw_cv (va_runV (As := []) (rest := []) ⟨hx, hb, hml, hown, hts⟩ (c_Mo_takePlan l dC dI cI cJ cG cZ a H.size fi fl ai al _ hw) (cwV 0 hts (zw_goodV kw_820 kw_822 kw_s25 kw_9 kw_823) rfl rfl rfl hd_Mo_takePlan ⟨Nat.le_of_ble_eq_true rfl, Nat.le_of_ble_eq_true rfl⟩) (zw_preVw (ci := 7) (q0 := 0) hK hN hP hD rfl rfl) rfl rfl hl.1 rfl (lv_room (Nat.le_of_ble_eq_true rfl)) d_Mo_told_1 ⟨Nat.le_of_ble_eq_true rfl, Nat.le_of_ble_eq_true rfl⟩) hD hS hA (fun fi_1 fl_1 ai_1 al_1 H locs hw hP hD hS => ?_)
    obtain ⟨rfl, rfl, hw⟩ := hw
    refine lv_iload_n hx hb d_Mo_told_4 rfl (lv_at hl 1 rfl) ?_
    by_cases c5_0 : p0 = (0 : Int32)
    · have hw := zw_ite_t c5_0 hw
      refine lv_tableIn (off := 39) (tgt := 44) hx hb d_Mo_told_5 (by rw [c5_0]; decide) (by rw [c5_0]; decide) (by rw [c5_0]; rfl) (by decide) ?_
      refine lv_aload_n hx hb d_Mo_told_44 rfl (lv_at hl 0 rfl) ?_
      refine va_get (D := (dC, dI)) (ci := 7) (v := .int (fi_1 2)) (C := R_Mo) (T := T_Mo) (N := 36) hx hb ht in_Mo hown hK hP 0 rfl rfl 11 (by decide) (ht _ kw_624) (fun _ h9 => h9) rfl d_Mo_told_45 ?_
      refine lv_i2l hx hb d_Mo_told_48 rfl ?_
      exact W.lret (v := (fi_1 2).toInt64) hx hb hr (fun t ht hW => ⟨⟨(fi_1 2).toInt64, (fi_1, fl, ai_1, al), rfl, ⟨rfl, rfl, hw⟩, by rw [ht]; exact hP, va_K.moved hW.alike hK, hD⟩, hS.F ht⟩) hS.2.2 d_Mo_told_49
    · have hw := zw_ite_f c5_0 hw
      by_cases c5_1 : p0 = (1 : Int32)
      · have hw := zw_ite_t c5_1 hw
        refine lv_tableIn (off := 45) (tgt := 50) hx hb d_Mo_told_5 (by rw [c5_1]; decide) (by rw [c5_1]; decide) (by rw [c5_1]; rfl) (by decide) ?_
        refine lv_aload_n hx hb d_Mo_told_50 rfl (lv_at hl 0 rfl) ?_
        refine va_get (D := (dC, dI)) (ci := 7) (v := .int (fi_1 3)) (C := R_Mo) (T := T_Mo) (N := 36) hx hb ht in_Mo hown hK hP 0 rfl rfl 16 (by decide) (ht _ kw_629) (fun _ h9 => h9) rfl d_Mo_told_51 ?_
        refine lv_i2l hx hb d_Mo_told_54 rfl ?_
        exact W.lret (v := (fi_1 3).toInt64) hx hb hr (fun t ht hW => ⟨⟨(fi_1 3).toInt64, (fi_1, fl, ai_1, al), rfl, ⟨rfl, rfl, hw⟩, by rw [ht]; exact hP, va_K.moved hW.alike hK, hD⟩, hS.F ht⟩) hS.2.2 d_Mo_told_55
      · have hw := zw_ite_f c5_1 hw
        by_cases c5_2 : p0 = (2 : Int32)
        · have hw := zw_ite_t c5_2 hw
          refine lv_tableIn (off := 51) (tgt := 56) hx hb d_Mo_told_5 (by rw [c5_2]; decide) (by rw [c5_2]; decide) (by rw [c5_2]; rfl) (by decide) ?_
          refine lv_aload_n hx hb d_Mo_told_56 rfl (lv_at hl 0 rfl) ?_
          refine va_get (D := (dC, dI)) (ci := 7) (v := .int (fi_1 8)) (C := R_Mo) (T := T_Mo) (N := 36) hx hb ht in_Mo hown hK hP 0 rfl rfl 28 (by decide) (ht _ kw_641) (fun _ h9 => h9) rfl d_Mo_told_57 ?_
          refine lv_i2l hx hb d_Mo_told_60 rfl ?_
          exact W.lret (v := (fi_1 8).toInt64) hx hb hr (fun t ht hW => ⟨⟨(fi_1 8).toInt64, (fi_1, fl, ai_1, al), rfl, ⟨rfl, rfl, hw⟩, by rw [ht]; exact hP, va_K.moved hW.alike hK, hD⟩, hS.F ht⟩) hS.2.2 d_Mo_told_61
        · have hw := zw_ite_f c5_2 hw
          by_cases c5_3 : p0 = (3 : Int32)
          · have hw := zw_ite_t c5_3 hw
            refine lv_tableIn (off := 57) (tgt := 62) hx hb d_Mo_told_5 (by rw [c5_3]; decide) (by rw [c5_3]; decide) (by rw [c5_3]; rfl) (by decide) ?_
            refine lv_aload_n hx hb d_Mo_told_62 rfl (lv_at hl 0 rfl) ?_
            refine lv_iconst (v := (0 : Int32)) hx hb d_Mo_told_63 (by decide) ?_
            refine vp_callSi (va_Run.run (va_runV (As := [.int (0 : Int32)]) (rest := []) ⟨hx, hb, hml, hown, hts⟩ (c_Mo_isOn l dC dI cI cJ cG cZ a fi_1 fl ai_1 al (0 : Int32) _ hw) (cwV 1 hts (zw_goodV kw_803 kw_805 kw_s23 kw_9 kw_806) rfl rfl rfl hd_Mo_isOn ⟨Nat.le_of_ble_eq_true rfl, Nat.le_of_ble_eq_true rfl⟩) (zw_preV (ci := 7) (q0 := 0) hK hN hP rfl rfl) rfl rfl hl.1 rfl (lv_room (Nat.le_of_ble_eq_true rfl)) d_Mo_told_64 ⟨Nat.le_of_ble_eq_true rfl, Nat.le_of_ble_eq_true rfl⟩)) (fun r64 hw => ?_)
            refine zw_jn1_i (P := fun (y75_0 : Int32) => ∀ (H : Heap) (locs : List Loc) (ls : Array Slot), va_P (dC, dI) vwCl (mw cI cJ cG cZ a fi_1 fl ai_1 al) H → va_D A (mw cI cJ cG cZ a fi_1 fl ai_1 al) → va_S A s.heap H locs → lv_has ls 2 [(0, .ref (a 0))] → W p l e (headSpec ws_Mo_told ({ frames := 2, cells := 0, slots := 0, locals := 40 })).room s m ([.ref (a 0), .int p0] : List Value).toArray below meth c H locs 0 0 (MQ below (va_Ql (fun r (u : zw_Z) => (zw_k_fi_air fl al K) r u.1 u.2.1 u.2.2.1 u.2.2.2) (fun u t => zw_E (dC, dI) vwCl [(cI, .int), (cJ, .long), (cG, .array .int), (cZ, .boolean)] A (mw cI cJ cG cZ a u.1 u.2.1 u.2.2.1 u.2.2.2) t) A) ([.ref (a 0), .int p0] : List Value).toArray s 0 0 A) (F0 m 75 ls [.int y75_0])) hw (fun y75_0 hw H locs ls hP hD hS hl => ?_) (fun J75 hj75 hw => ?_)
            · refine lv_aload_n hx hb d_Mo_told_75 rfl (lv_at hl 0 rfl) ?_
              refine lv_iconst (v := (1 : Int32)) hx hb d_Mo_told_76 (by decide) ?_
              refine vp_callSi (va_Run.run (va_runV (As := [.int (1 : Int32)]) (rest := [.int y75_0]) ⟨hx, hb, hml, hown, hts⟩ (c_Mo_isOn l dC dI cI cJ cG cZ a fi_1 fl ai_1 al (1 : Int32) _ hw) (cwV 1 hts (zw_goodV kw_803 kw_805 kw_s23 kw_9 kw_806) rfl rfl rfl hd_Mo_isOn ⟨Nat.le_of_ble_eq_true rfl, Nat.le_of_ble_eq_true rfl⟩) (zw_preV (ci := 7) (q0 := 0) hK hN hP rfl rfl) rfl rfl hl.1 rfl (lv_room (Nat.le_of_ble_eq_true rfl)) d_Mo_told_77 ⟨Nat.le_of_ble_eq_true rfl, Nat.le_of_ble_eq_true rfl⟩)) (fun r77 hw => ?_)
              refine zw_jn1_i (P := fun (y88_0 : Int32) => ∀ (H : Heap) (locs : List Loc) (ls : Array Slot), va_P (dC, dI) vwCl (mw cI cJ cG cZ a fi_1 fl ai_1 al) H → va_D A (mw cI cJ cG cZ a fi_1 fl ai_1 al) → va_S A s.heap H locs → lv_has ls 2 [(0, .ref (a 0))] → W p l e (headSpec ws_Mo_told ({ frames := 2, cells := 0, slots := 0, locals := 40 })).room s m ([.ref (a 0), .int p0] : List Value).toArray below meth c H locs 0 0 (MQ below (va_Ql (fun r (u : zw_Z) => (zw_k_fi_air fl al K) r u.1 u.2.1 u.2.2.1 u.2.2.2) (fun u t => zw_E (dC, dI) vwCl [(cI, .int), (cJ, .long), (cG, .array .int), (cZ, .boolean)] A (mw cI cJ cG cZ a u.1 u.2.1 u.2.2.1 u.2.2.2) t) A) ([.ref (a 0), .int p0] : List Value).toArray s 0 0 A) (F0 m 88 ls [.int y88_0, .int y75_0])) hw (fun y88_0 hw H locs ls hP hD hS hl => ?_) (fun J88 hj88 hw => ?_)
              · refine lv_iadd hx hb d_Mo_told_88 ?_
                refine lv_aload_n hx hb d_Mo_told_89 rfl (lv_at hl 0 rfl) ?_
                refine lv_iconst (v := (2 : Int32)) hx hb d_Mo_told_90 (by decide) ?_
                refine vp_callSi (va_Run.run (va_runV (As := [.int (2 : Int32)]) (rest := [.int (y75_0 + y88_0)]) ⟨hx, hb, hml, hown, hts⟩ (c_Mo_isOn l dC dI cI cJ cG cZ a fi_1 fl ai_1 al (2 : Int32) _ hw) (cwV 1 hts (zw_goodV kw_803 kw_805 kw_s23 kw_9 kw_806) rfl rfl rfl hd_Mo_isOn ⟨Nat.le_of_ble_eq_true rfl, Nat.le_of_ble_eq_true rfl⟩) (zw_preV (ci := 7) (q0 := 0) hK hN hP rfl rfl) rfl rfl hl.1 rfl (lv_room (Nat.le_of_ble_eq_true rfl)) d_Mo_told_91 ⟨Nat.le_of_ble_eq_true rfl, Nat.le_of_ble_eq_true rfl⟩)) (fun r91 hw => ?_)
                refine lv_if_eq (tgt := 101) hx hb d_Mo_told_94 (by decide) (fun c94 => ?_) (fun c94 => ?_)
                · have hw := zw_ite_t c94 hw
                  refine lv_iconst (v := (0 : Int32)) hx hb d_Mo_told_101 (by decide) ?_
                  refine lv_iadd hx hb d_Mo_told_102 ?_
                  refine lv_i2l hx hb d_Mo_told_103 rfl ?_
                  exact W.lret (v := ((y75_0 + y88_0) + (0 : Int32)).toInt64) hx hb hr (fun t ht hW => ⟨⟨((y75_0 + y88_0) + (0 : Int32)).toInt64, (fi_1, fl, ai_1, al), rfl, ⟨rfl, rfl, hw⟩, by rw [ht]; exact hP, va_K.moved hW.alike hK, hD⟩, hS.F ht⟩) hS.2.2 d_Mo_told_104
                · have hw := zw_ite_f c94 hw
                  refine lv_iconst (v := (4 : Int32)) hx hb d_Mo_told_97 (by decide) ?_
                  refine lv_goto (tgt := 102) hx hb d_Mo_told_98 (by decide) ?_
                  refine lv_iadd hx hb d_Mo_told_102 ?_
                  refine lv_i2l hx hb d_Mo_told_103 rfl ?_
                  exact W.lret (v := ((y75_0 + y88_0) + (4 : Int32)).toInt64) hx hb hr (fun t ht hW => ⟨⟨((y75_0 + y88_0) + (4 : Int32)).toInt64, (fi_1, fl, ai_1, al), rfl, ⟨rfl, rfl, hw⟩, by rw [ht]; exact hP, va_K.moved hW.alike hK, hD⟩, hS.F ht⟩) hS.2.2 d_Mo_told_104
              · refine lv_if_eq (tgt := 87) hx hb d_Mo_told_80 (by decide) (fun c80 => ?_) (fun c80 => ?_)
                · have hw := zw_ite_t c80 hw
                  refine lv_iconst (v := (0 : Int32)) hx hb d_Mo_told_87 (by decide) ?_
                  exact (hj88 (0 : Int32) hw) H locs ls hP hD hS (lv_sub hl [0] rfl)
                · have hw := zw_ite_f c80 hw
                  refine lv_iconst (v := (2 : Int32)) hx hb d_Mo_told_83 (by decide) ?_
                  refine lv_goto (tgt := 88) hx hb d_Mo_told_84 (by decide) ?_
                  exact (hj88 (2 : Int32) hw) H locs ls hP hD hS (lv_sub hl [0] rfl)
            · refine lv_if_eq (tgt := 74) hx hb d_Mo_told_67 (by decide) (fun c67 => ?_) (fun c67 => ?_)
              · have hw := zw_ite_t c67 hw
                refine lv_iconst (v := (0 : Int32)) hx hb d_Mo_told_74 (by decide) ?_
                exact (hj75 (0 : Int32) hw) H locs ls hP hD hS (lv_sub hl [0] rfl)
              · have hw := zw_ite_f c67 hw
                refine lv_iconst (v := (1 : Int32)) hx hb d_Mo_told_70 (by decide) ?_
                refine lv_goto (tgt := 75) hx hb d_Mo_told_71 (by decide) ?_
                exact (hj75 (1 : Int32) hw) H locs ls hP hD hS (lv_sub hl [0] rfl)
          · have hw := zw_ite_f c5_3 hw
            by_cases c5_4 : p0 = (4 : Int32)
            · have hw := zw_ite_t c5_4 hw
              refine lv_tableIn (off := 100) (tgt := 105) hx hb d_Mo_told_5 (by rw [c5_4]; decide) (by rw [c5_4]; decide) (by rw [c5_4]; rfl) (by decide) ?_
              refine lv_aload_n hx hb d_Mo_told_105 rfl (lv_at hl 0 rfl) ?_
              refine va_get (D := (dC, dI)) (ci := 7) (v := .int (fi_1 6)) (C := R_Mo) (T := T_Mo) (N := 36) hx hb ht in_Mo hown hK hP 0 rfl rfl 24 (by decide) (ht _ kw_637) (fun _ h9 => h9) rfl d_Mo_told_106 ?_
              refine lv_i2l hx hb d_Mo_told_109 rfl ?_
              exact W.lret (v := (fi_1 6).toInt64) hx hb hr (fun t ht hW => ⟨⟨(fi_1 6).toInt64, (fi_1, fl, ai_1, al), rfl, ⟨rfl, rfl, hw⟩, by rw [ht]; exact hP, va_K.moved hW.alike hK, hD⟩, hS.F ht⟩) hS.2.2 d_Mo_told_110
            · have hw := zw_ite_f c5_4 hw
              by_cases c5_5 : p0 = (5 : Int32)
              · have hw := zw_ite_t c5_5 hw
                refine lv_tableIn (off := 106) (tgt := 111) hx hb d_Mo_told_5 (by rw [c5_5]; decide) (by rw [c5_5]; decide) (by rw [c5_5]; rfl) (by decide) ?_
                refine lv_aload_n hx hb d_Mo_told_111 rfl (lv_at hl 0 rfl) ?_
                refine va_get (D := (dC, dI)) (ci := 7) (v := .int (fi_1 2)) (C := R_Mo) (T := T_Mo) (N := 36) hx hb ht in_Mo hown hK hP 0 rfl rfl 11 (by decide) (ht _ kw_624) (fun _ h9 => h9) rfl d_Mo_told_112 ?_
                refine lv_if_ne (tgt := 124) hx hb d_Mo_told_115 (by decide) (fun c115 => ?_) (fun c115 => ?_)
                · have hw := zw_ite_f c115 hw
                  refine lv_aload_n hx hb d_Mo_told_124 rfl (lv_at hl 0 rfl) ?_
                  refine vp_callSi (va_Run.run (va_runV (As := []) (rest := []) ⟨hx, hb, hml, hown, hts⟩ (c_Mo_endDay l dC dI cI cJ cG cZ a fi_1 fl ai_1 al _ hw) (cwV 0 hts (zw_goodV kw_853 kw_855 kw_s33 kw_9 kw_856) rfl rfl rfl hd_Mo_endDay ⟨Nat.le_of_ble_eq_true rfl, Nat.le_of_ble_eq_true rfl⟩) (zw_preV (ci := 7) (q0 := 0) hK hN hP rfl rfl) rfl rfl hl.1 rfl (lv_room (Nat.le_of_ble_eq_true rfl)) d_Mo_told_125 ⟨Nat.le_of_ble_eq_true rfl, Nat.le_of_ble_eq_true rfl⟩)) (fun r125 hw => ?_)
                  refine lv_i2l hx hb d_Mo_told_128 rfl ?_
                  exact W.lret (v := r125.toInt64) hx hb hr (fun t ht hW => ⟨⟨r125.toInt64, (fi_1, fl, ai_1, al), rfl, ⟨rfl, rfl, hw⟩, by rw [ht]; exact hP, va_K.moved hW.alike hK, hD⟩, hS.F ht⟩) hS.2.2 d_Mo_told_129
                · have hw := zw_ite_t c115 hw
                  refine lv_ldc2 (v := (-1000000000000000000 : Int64)) hx hb hown (hts (.constantLong R_Mo 148 (-1000000000000000000 : Int64)) (by decide +kernel)) d_Mo_told_118 ?_
                  refine lv_goto (tgt := 129) hx hb d_Mo_told_121 (by decide) ?_
                  exact W.lret (v := (-1000000000000000000 : Int64)) hx hb hr (fun t ht hW => ⟨⟨(-1000000000000000000 : Int64), (fi_1, fl, ai_1, al), rfl, ⟨rfl, rfl, hw⟩, by rw [ht]; exact hP, va_K.moved hW.alike hK, hD⟩, hS.F ht⟩) hS.2.2 d_Mo_told_129
              · have hw := zw_ite_f c5_5 hw
                refine lv_tableOut (tgt := 130) hx hb d_Mo_told_5 (by have := lv_neT (a := 0) c5_0 (by decide); have := lv_neT (a := 1) c5_1 (by decide); have := lv_neT (a := 2) c5_2 (by decide); have := lv_neT (a := 3) c5_3 (by decide); have := lv_neT (a := 4) c5_4 (by decide); have := lv_neT (a := 5) c5_5 (by decide); omega) (by decide) ?_
                refine lv_ldc2 (v := (-1000000000000000000 : Int64)) hx hb hown (hts (.constantLong R_Mo 148 (-1000000000000000000 : Int64)) (by decide +kernel)) d_Mo_told_130 ?_
                exact W.lret (v := (-1000000000000000000 : Int64)) hx hb hr (fun t ht hW => ⟨⟨(-1000000000000000000 : Int64), (fi_1, fl, ai_1, al), rfl, ⟨rfl, rfl, hw⟩, by rw [ht]; exact hP, va_K.moved hW.alike hK, hD⟩, hS.F ht⟩) hS.2.2 d_Mo_told_133
  rw [hH, hlo] at key
  exact key
