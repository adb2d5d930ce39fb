def Wa_begin_w (fi : Nat → Int32) (fl : Nat → Int64) (ai : Nat → Nat → Int32) (al : Nat → Nat → Int64) (P0 : Nat) (K : (Nat → Int32) → (Nat → Nat → Int32) → (Nat → Nat → Int64) → Prop) : Prop :=
  zw_nm (va_up al 41 (zw_fill 6 (al 41) (0 : Int64))) (fun (al_5 : Nat → Nat → Int64) =>
  zw_nm (va_up al_5 42 (zw_fill 3 (al_5 42) (0 : Int64))) (fun (al_13 : Nat → Nat → Int64) =>
  zw_nm (va_up ai 43 (zw_fill 6 (ai 43) (-1 : Int32))) (fun (ai_21 : Nat → Nat → Int32) =>
  zw_nm (va_up fi 9 (0 : Int32)) (fun (fi_26 : Nat → Int32) =>
  zw_nm (va_up fi_26 10 (0 : Int32)) (fun (fi_31 : Nat → Int32) =>
  zw_nm (0 : Int32) (fun (v35 : Int32) =>
  zw_lp2 (fun L36 (x36_2 : Int32) (ai36 : Nat → Nat → Int32) =>
  if (fi_31 4) ≤ x36_2 then (
    K fi_31 ai36 al_13)
  else (
    vp_in x36_2 6 ∧ (
    vp_in x36_2 6 ∧ (
    vp_in (ai36 P0 x36_2.toNatClampNeg) 6 ∧ (zw_nm (va_up ai36 43 (upd (ai36 43) (ai36 P0 x36_2.toNatClampNeg).toNatClampNeg (ai36 11 x36_2.toNatClampNeg))) (fun (ai_63 : Nat → Nat → Int32) =>
    zw_nm (x36_2 + (1 : Int32)) (fun (v64 : Int32) =>
    L36 v64 ai_63))))))) v35 ai_21))))))
theorem d_Wa_begin_0 : decode b_Wa_begin 0 = .ok (.aload_n 0, 1) := by decide +kernel
theorem d_Wa_begin_1 : decode b_Wa_begin 1 = .ok (.getfield 9, 3) := by decide +kernel
theorem d_Wa_begin_4 : decode b_Wa_begin 4 = .ok (.lconst 0, 1) := by decide +kernel
theorem d_Wa_begin_5 : decode b_Wa_begin 5 = .ok (.invokestatic 115, 3) := by decide +kernel
theorem d_Wa_begin_8 : decode b_Wa_begin 8 = .ok (.aload_n 0, 1) := by decide +kernel
theorem d_Wa_begin_9 : decode b_Wa_begin 9 = .ok (.getfield 15, 3) := by decide +kernel
theorem d_Wa_begin_12 : decode b_Wa_begin 12 = .ok (.lconst 0, 1) := by decide +kernel
theorem d_Wa_begin_13 : decode b_Wa_begin 13 = .ok (.invokestatic 115, 3) := by decide +kernel
theorem d_Wa_begin_16 : decode b_Wa_begin 16 = .ok (.aload_n 0, 1) := by decide +kernel
theorem d_Wa_begin_17 : decode b_Wa_begin 17 = .ok (.getfield 18, 3) := by decide +kernel
theorem d_Wa_begin_20 : decode b_Wa_begin 20 = .ok (.iconst (-1), 1) := by decide +kernel
theorem d_Wa_begin_21 : decode b_Wa_begin 21 = .ok (.invokestatic 121, 3) := by decide +kernel
theorem d_Wa_begin_24 : decode b_Wa_begin 24 = .ok (.aload_n 0, 1) := by decide +kernel
theorem d_Wa_begin_25 : decode b_Wa_begin 25 = .ok (.iconst 0, 1) := by decide +kernel
theorem d_Wa_begin_26 : decode b_Wa_begin 26 = .ok (.putfield 76, 3) := by decide +kernel
theorem d_Wa_begin_29 : decode b_Wa_begin 29 = .ok (.aload_n 0, 1) := by decide +kernel
theorem d_Wa_begin_30 : decode b_Wa_begin 30 = .ok (.iconst 0, 1) := by decide +kernel
theorem d_Wa_begin_31 : decode b_Wa_begin 31 = .ok (.putfield 95, 3) := by decide +kernel
theorem d_Wa_begin_34 : decode b_Wa_begin 34 = .ok (.iconst 0, 1) := by decide +kernel
theorem d_Wa_begin_35 : decode b_Wa_begin 35 = .ok (.istore_n 2, 1) := by decide +kernel
theorem d_Wa_begin_36 : decode b_Wa_begin 36 = .ok (.iload_n 2, 1) := by decide +kernel
theorem d_Wa_begin_37 : decode b_Wa_begin 37 = .ok (.aload_n 0, 1) := by decide +kernel
theorem d_Wa_begin_38 : decode b_Wa_begin 38 = .ok (.getfield 38, 3) := by decide +kernel
theorem d_Wa_begin_41 : decode b_Wa_begin 41 = .ok (.getfield 124, 3) := by decide +kernel
theorem d_Wa_begin_44 : decode b_Wa_begin 44 = .ok (.if_icmp .ge (26), 3) := by decide +kernel
theorem d_Wa_begin_47 : decode b_Wa_begin 47 = .ok (.aload_n 0, 1) := by decide +kernel
theorem d_Wa_begin_48 : decode b_Wa_begin 48 = .ok (.getfield 18, 3) := by decide +kernel
theorem d_Wa_begin_51 : decode b_Wa_begin 51 = .ok (.aload_n 1, 1) := by decide +kernel
theorem d_Wa_begin_52 : decode b_Wa_begin 52 = .ok (.iload_n 2, 1) := by decide +kernel
theorem d_Wa_begin_53 : decode b_Wa_begin 53 = .ok (.iaload, 1) := by decide +kernel
theorem d_Wa_begin_54 : decode b_Wa_begin 54 = .ok (.aload_n 0, 1) := by decide +kernel
theorem d_Wa_begin_55 : decode b_Wa_begin 55 = .ok (.getfield 38, 3) := by decide +kernel
theorem d_Wa_begin_58 : decode b_Wa_begin 58 = .ok (.getfield 127, 3) := by decide +kernel
theorem d_Wa_begin_61 : decode b_Wa_begin 61 = .ok (.iload_n 2, 1) := by decide +kernel
theorem d_Wa_begin_62 : decode b_Wa_begin 62 = .ok (.iaload, 1) := by decide +kernel
theorem d_Wa_begin_63 : decode b_Wa_begin 63 = .ok (.iastore, 1) := by decide +kernel
theorem d_Wa_begin_64 : decode b_Wa_begin 64 = .ok (.iinc 2 (1), 3) := by decide +kernel
theorem d_Wa_begin_67 : decode b_Wa_begin 67 = .ok (.goto (-31), 3) := by decide +kernel
theorem d_Wa_begin_70 : decode b_Wa_begin 70 = .ok (.return_, 1) := by decide +kernel
set_option maxHeartbeats 4000000 in
set_option maxRecDepth 100000 in
theorem c_Wa_begin (l : Launch) (dC : Nat → ClassId) (dI : Nat → Nat → Nat) (cI cJ cG cZ : ClassId) (a : Nat → Nat) (sz : Nat) (fi : Nat → Int32) (fl : Nat → Int64) (ai : Nat → Nat → Int32) (al : Nat → Nat → Int64) (P0 : Nat) (K : (Nat → Int32) → (Nat → Nat → Int32) → (Nat → Nat → Int64) → Prop) (hP0 : ∀ fi fl ai al, (cw cI cJ cG cZ a fi fl ai al)[P0]? = some (a P0, .inl (cI, 6, .inl (ai P0)))) (hw : Wa_begin_w fi fl ai al P0 K) : Met l y_Wa_begin ws_Wa_begin ({ frames := 1, cells := 0, slots := 0, locals := 24 }) (va_Pc [.ref (a 40), .ref (a P0)] (zw_Bw (dC, dI) vwCl [(cI, .int), (cJ, .long), (cG, .array .int), (cZ, .boolean)] (cw cI cJ cG cZ a fi fl ai al) sz)) (va_Qv (fun (u : zw_Z) => (zw_k_fi_ai_alv fl K) u.1 u.2.1 u.2.2.1 u.2.2.2) (fun u t => zw_E (dC, dI) vwCl [(cI, .int), (cJ, .long), (cG, .array .int), (cZ, .boolean)] (va_A (cw cI cJ cG cZ a fi fl ai al) sz) (cw cI cJ cG cZ a u.1 u.2.1 u.2.2.1 u.2.2.2) t) (va_A (cw cI cJ cG cZ a fi fl ai al) sz)) 0 0 (va_A (cw cI cJ cG cZ a fi fl ai al) sz) := by
  refine Met.ofW (cc := b_Wa_begin) (maxL := 3) (ret := (Option.none : Option FieldType)) (by decide) rfl ?_
  intro p e s m args below meth c s₁ B hml hv
  obtain ⟨rfl, hsz, hP, hK, hD0, hN⟩ := hv
  have hx := B.exec
  have hb := B.bytes
  have hr := B.returns
  have hts := atoms_spec (ws := ws_Wa_begin) B.pre
  have ht : ∀ w ∈ zw_tbl, w.before _ s = true := fun w h => hts w (List.mem_cons_of_mem _ h)
  have hown : s.vm.findClass R_Wa = some m.cls := findClass_of_methodNamed B.named
  have hlocks := B.notSynchronized
  subst hsz
  have hD := hD0.self (sz := s.heap.size)
  generalize hAe : va_A (cw cI cJ cG cZ a fi fl ai al) s.heap.size = A at hD ⊢
  have hA : ∀ q : Nat, s.heap.size ≤ q → A q := fun q h => by rw [← hAe]; exact Or.inr h
  have hS : va_S A s.heap s.heap [] := va_S.rf
  have hl := lv_entry ([.ref (a 40), .ref (a P0)] : List Value) (n := 3) (Nat.le_of_ble_eq_true rfl)
  rw [lg_entry_eq]
  generalize (lg_sl ([.ref (a 40), .ref (a P0)] : List Value) ++ List.replicate (3 - (lg_sl ([.ref (a 40), .ref (a P0)] : List Value)).length) Slot.unset).toArray = ls at hl ⊢
  have hl : lv_has ls 3 [(0, .ref (a 40)), (1, .ref (a P0))] := hl
  unfold Wa_begin_w at hw
  obtain ⟨H, hH⟩ : ∃ H, H = s.heap := ⟨_, rfl⟩
  obtain ⟨locs, hlo⟩ : ∃ q : List Loc, q = [] := ⟨_, rfl⟩
  have hP : va_P (dC, dI) vwCl (cw cI cJ cG cZ a fi fl ai al) H := by rw [hH]; exact hP
  have hS : va_S A s.heap H locs := by rw [hH, hlo]; exact hS
  have key : W p l e (headSpec ws_Wa_begin ({ frames := 1, cells := 0, slots := 0, locals := 24 })).room s m ([.ref (a 40), .ref (a P0)] : List Value).toArray below meth c H locs 0 0 (MQ below (va_Qv (fun (u : zw_Z) => (zw_k_fi_ai_alv fl K) u.1 u.2.1 u.2.2.1 u.2.2.2) (fun u t => zw_E (dC, dI) vwCl [(cI, .int), (cJ, .long), (cG, .array .int), (cZ, .boolean)] A (cw cI cJ cG cZ a u.1 u.2.1 u.2.2.1 u.2.2.2) t) A) ([.ref (a 40), .ref (a P0)] : List Value).toArray s 0 0 A) (F0 m 0 ls []) := by
    refine lv_aload_n hx hb d_Wa_begin_0 rfl (lv_at hl 0 rfl) ?_
    refine va_get (D := (dC, dI)) (ci := 6) (v := .ref (a 41)) (C := R_Wa) (T := T_Wa) (N := 11) hx hb ht in_Wa hown hK hP 40 rfl rfl 3 (by decide) (ht _ kw_179) (fun _ h9 => h9) rfl d_Wa_begin_1 ?_
    refine lv_lconst (v := (0 : Int64)) hx hb d_Wa_begin_4 (by decide) ?_
    refine zw_filll ⟨hx, hb, hml, hown, hts⟩ (va_cwS 2 hts (zw_goodS kw_448 kw_449 kw_10 kw_450) rfl rfl rfl hd_Arr_fill_l.2 ⟨Nat.le_of_ble_eq_true rfl, Nat.le_of_ble_eq_true rfl⟩) hK hN hP hD hS hA 41 1 rfl rfl (by decide) hl.1 (lv_room (Nat.le_of_ble_eq_true rfl)) d_Wa_begin_5 ⟨Nat.le_of_ble_eq_true rfl, Nat.le_of_ble_eq_true rfl⟩ (fun H locs hP hD hS => ?_)
    have hP := cwpal_41 hP
    have hD := cwdal_41 hD
    obtain ⟨al_5, eal_5⟩ : ∃ z, z = va_up al 41 (zw_fill 6 (al 41) (0 : Int64)) := ⟨_, rfl⟩
    rw [← eal_5] at hP hD
    have hw := zw_nm_x eal_5 hw
    refine lv_aload_n hx hb d_Wa_begin_8 rfl (lv_at hl 0 rfl) ?_
    refine va_get (D := (dC, dI)) (ci := 6) (v := .ref (a 42)) (C := R_Wa) (T := T_Wa) (N := 11) hx hb ht in_Wa hown hK hP 40 rfl rfl 4 (by decide) (ht _ kw_181) (fun _ h9 => h9) rfl d_Wa_begin_9 ?_
    refine lv_lconst (v := (0 : Int64)) hx hb d_Wa_begin_12 (by decide) ?_
    refine zw_filll ⟨hx, hb, hml, hown, hts⟩ (va_cwS 2 hts (zw_goodS kw_448 kw_449 kw_10 kw_450) rfl rfl rfl hd_Arr_fill_l.2 ⟨Nat.le_of_ble_eq_true rfl, Nat.le_of_ble_eq_true rfl⟩) hK hN hP hD hS hA 42 1 rfl rfl (by decide) hl.1 (lv_room (Nat.le_of_ble_eq_true rfl)) d_Wa_begin_13 ⟨Nat.le_of_ble_eq_true rfl, Nat.le_of_ble_eq_true rfl⟩ (fun H locs hP hD hS => ?_)
    have hP := cwpal_42 hP
    have hD := cwdal_42 hD
    obtain ⟨al_13, eal_13⟩ : ∃ z, z = va_up al_5 42 (zw_fill 3 (al_5 42) (0 : Int64)) := ⟨_, rfl⟩
    rw [← eal_13] at hP hD
    have hw := zw_nm_x eal_13 hw
    refine lv_aload_n hx hb d_Wa_begin_16 rfl (lv_at hl 0 rfl) ?_
    refine va_get (D := (dC, dI)) (ci := 6) (v := .ref (a 43)) (C := R_Wa) (T := T_Wa) (N := 11) hx hb ht in_Wa hown hK hP 40 rfl rfl 5 (by decide) (ht _ kw_183) (fun _ h9 => h9) rfl d_Wa_begin_17 ?_
    refine lv_iconst (v := (-1 : Int32)) hx hb d_Wa_begin_20 (by decide) ?_
    refine zw_filli ⟨hx, hb, hml, hown, hts⟩ (va_cwS 2 hts (zw_goodS kw_451 kw_452 kw_10 kw_453) rfl rfl rfl hd_Arr_fill_i.2 ⟨Nat.le_of_ble_eq_true rfl, Nat.le_of_ble_eq_true rfl⟩) hK hN hP hD hS hA 43 0 rfl rfl (by decide) hl.1 (lv_room (Nat.le_of_ble_eq_true rfl)) d_Wa_begin_21 ⟨Nat.le_of_ble_eq_true rfl, Nat.le_of_ble_eq_true rfl⟩ (fun H locs hP hD hS => ?_)
    have hP := cwpai_43 hP
    have hD := cwdai_43 hD
    obtain ⟨ai_21, eai_21⟩ : ∃ z, z = va_up ai 43 (zw_fill 6 (ai 43) (-1 : Int32)) := ⟨_, rfl⟩
    rw [← eai_21] at hP hD
    have hw := zw_nm_x eai_21 hw
    refine lv_aload_n hx hb d_Wa_begin_24 rfl (lv_at hl 0 rfl) ?_
    refine lv_iconst (v := (0 : Int32)) hx hb d_Wa_begin_25 (by decide) ?_
    refine va_put (D := (dC, dI)) (ci := 6) (v := .int (0 : Int32)) (ty := .int) (C := R_Wa) (T := T_Wa) (N := 11) hx hb ht in_Wa t_Wa t_Wa_ok n_Wa hown hK hP hD hS 40 rfl rfl 9 (by decide) (ht _ kw_187) (fun _ h9 => h9) rfl (by decide +kernel) rfl rfl (Nat.le_of_ble_eq_true rfl) d_Wa_begin_26 (fun H locs hP hD hS => ?_)
    have hP := cwpfi_9 hP
    have hD := cwdfi_9 hD
    obtain ⟨fi_26, efi_26⟩ : ∃ z, z = va_up fi 9 (0 : Int32) := ⟨_, rfl⟩
    rw [← efi_26] at hP hD
    have hw := zw_nm_x efi_26 hw
    refine lv_aload_n hx hb d_Wa_begin_29 rfl (lv_at hl 0 rfl) ?_
    refine lv_iconst (v := (0 : Int32)) hx hb d_Wa_begin_30 (by decide) ?_
    refine va_put (D := (dC, dI)) (ci := 6) (v := .int (0 : Int32)) (ty := .int) (C := R_Wa) (T := T_Wa) (N := 11) hx hb ht in_Wa t_Wa t_Wa_ok n_Wa hown hK hP hD hS 40 rfl rfl 10 (by decide) (ht _ kw_188) (fun _ h9 => h9) rfl (by decide +kernel) rfl rfl (Nat.le_of_ble_eq_true rfl) d_Wa_begin_31 (fun H locs hP hD hS => ?_)
    have hP := cwpfi_10 hP
    have hD := cwdfi_10 hD
    obtain ⟨fi_31, efi_31⟩ : ∃ z, z = va_up fi_26 10 (0 : Int32) := ⟨_, rfl⟩
    rw [← efi_31] at hP hD
    have hw := zw_nm_x efi_31 hw
    refine lv_iconst (v := (0 : Int32)) hx hb d_Wa_begin_34 (by decide) ?_
    refine lv_topi (fun v35 ev35 => ?_)
    have hw := zw_nm_x ev35 hw
    refine lv_istore_n (lv' := [(2, .int v35), (0, .ref (a 40)), (1, .ref (a P0))]) hx hb d_Wa_begin_35 rfl hl (by decide) rfl (fun ls hl => ?_)
    refine (zw_lp2_i (P := fun (x36_2 : Int32) (ai36 : Nat → Nat → Int32) => ∀ (H : Heap) (locs : List Loc) (ls : Array Slot), va_P (dC, dI) vwCl (cw cI cJ cG cZ a fi_31 fl ai36 al_13) H → va_D A (cw cI cJ cG cZ a fi_31 fl ai36 al_13) → va_S A s.heap H locs → lv_has ls 3 [(0, .ref (a 40)), (1, .ref (a P0)), (2, .int x36_2)] → W p l e (headSpec ws_Wa_begin ({ frames := 1, cells := 0, slots := 0, locals := 24 })).room s m ([.ref (a 40), .ref (a P0)] : List Value).toArray below meth c H locs 0 0 (MQ below (va_Qv (fun (u : zw_Z) => (zw_k_fi_ai_alv fl K) u.1 u.2.1 u.2.2.1 u.2.2.2) (fun u t => zw_E (dC, dI) vwCl [(cI, .int), (cJ, .long), (cG, .array .int), (cZ, .boolean)] A (cw cI cJ cG cZ a u.1 u.2.1 u.2.2.1 u.2.2.2) t) A) ([.ref (a 40), .ref (a P0)] : List Value).toArray s 0 0 A) (F0 m 36 ls [])) hw (fun L36 x36_2 ai36 ih36 hw H locs ls hP hD hS hl => ?_)) H locs ls hP hD hS (lv_sub hl [1, 2, 0] rfl)
    refine lv_iload_n hx hb d_Wa_begin_36 rfl (lv_at hl 2 rfl) ?_
    refine lv_aload_n hx hb d_Wa_begin_37 rfl (lv_at hl 0 rfl) ?_
    refine va_get (D := (dC, dI)) (ci := 6) (v := .ref (a 4)) (C := R_Wa) (T := T_Wa) (N := 11) hx hb ht in_Wa hown hK hP 40 rfl rfl 2 (by decide) (ht _ kw_178) (fun _ h9 => h9) rfl d_Wa_begin_38 ?_
    refine va_get (D := (dC, dI)) (ci := 3) (v := .int (fi_31 4)) (C := R_Pl) (T := T_Pl) (N := 11) hx hb ht in_Pl hown hK hP 4 rfl rfl 9 (by decide) (ht _ kw_67) (fun _ h9 => h9) rfl d_Wa_begin_41 ?_
    refine lv_icmp_ge (tgt := 70) hx hb d_Wa_begin_44 (by decide) (fun c44 => ?_) (fun c44 => ?_)
    · have hw := zw_ite_t c44 hw
      exact W.vret hx hb hr (fun t ht hW => ⟨⟨(fi_31, fl, ai36, al_13), rfl, ⟨rfl, hw⟩, by rw [ht]; exact hP, va_K.moved hW.alike hK, hD⟩, hS.F ht⟩) hS.2.2 d_Wa_begin_70
    · have hw := zw_ite_f c44 hw
      refine lv_aload_n hx hb d_Wa_begin_47 rfl (lv_at hl 0 rfl) ?_
      refine va_get (D := (dC, dI)) (ci := 6) (v := .ref (a 43)) (C := R_Wa) (T := T_Wa) (N := 11) hx hb ht in_Wa hown hK hP 40 rfl rfl 5 (by decide) (ht _ kw_183) (fun _ h9 => h9) rfl d_Wa_begin_48 ?_
      refine lv_aload_n hx hb d_Wa_begin_51 rfl (lv_at hl 1 rfl) ?_
      refine lv_iload_n hx hb d_Wa_begin_52 rfl (lv_at hl 2 rfl) ?_
      obtain ⟨h53, hw⟩ := hw
      refine va_iald (f := ai36 P0) hx hb hK hP P0 0 (hP0 _ _ _ _) rfl h53 d_Wa_begin_53 ?_
      refine lv_aload_n hx hb d_Wa_begin_54 rfl (lv_at hl 0 rfl) ?_
      refine va_get (D := (dC, dI)) (ci := 6) (v := .ref (a 4)) (C := R_Wa) (T := T_Wa) (N := 11) hx hb ht in_Wa hown hK hP 40 rfl rfl 2 (by decide) (ht _ kw_178) (fun _ h9 => h9) rfl d_Wa_begin_55 ?_
      refine va_get (D := (dC, dI)) (ci := 3) (v := .ref (a 11)) (C := R_Pl) (T := T_Pl) (N := 11) hx hb ht in_Pl hown hK hP 4 rfl rfl 6 (by decide) (ht _ kw_57) (fun _ h9 => h9) rfl d_Wa_begin_58 ?_
      refine lv_iload_n hx hb d_Wa_begin_61 rfl (lv_at hl 2 rfl) ?_
      obtain ⟨h62, hw⟩ := hw
      refine va_iald (f := ai36 11) hx hb hK hP 11 0 rfl rfl h62 d_Wa_begin_62 ?_
      obtain ⟨h63, hw⟩ := hw
      refine va_iast (f := ai36 43) hx hb hK hP hD hS 43 0 rfl rfl h63 d_Wa_begin_63 (fun H locs hP hD hS => ?_)
      have hP := cwpai_43 hP
      have hD := cwdai_43 hD
      obtain ⟨ai_63, eai_63⟩ : ∃ z, z = va_up ai36 43 (upd (ai36 43) (ai36 P0 x36_2.toNatClampNeg).toNatClampNeg (ai36 11 x36_2.toNatClampNeg)) := ⟨_, rfl⟩
      rw [← eai_63] at hP hD
      have hw := zw_nm_x eai_63 hw
      obtain ⟨v64, ev64⟩ : ∃ y : Int32, y = x36_2 + (1 : Int32) := ⟨_, rfl⟩
      refine lv_iinc (v := v64) (lv' := [(2, .int v64), (0, .ref (a 40)), (1, .ref (a P0))]) hx hb d_Wa_begin_64 hl (k := 2) rfl (by rw [ev64]; rfl) (by decide) rfl (fun ls hl => ?_)
      have hw := zw_nm_x ev64 hw
      refine lv_goto (tgt := 36) hx hb d_Wa_begin_67 (by decide) ?_
      exact (ih36 v64 ai_63 hw) H locs ls hP hD hS (lv_sub hl [1, 2, 0] rfl)
  rw [hH, hlo] at key
  exact key
def Wa_lift_w (fi : Nat → Int32) (fl : Nat → Int64) (ai : Nat → Nat → Int32) (al : Nat → Nat → Int64) (p0 : Int32) (p1 : Int32) (p2 : Int64) (K : (Nat → Nat → Int64) → Prop) : Prop :=
  SS_hasBit_w (fi 9) p1 (fun (r5 : Int32) =>
  if r5 = 0 then (
    vp_in p1 6 ∧ (
    if (ai 43 p1.toNatClampNeg) < 0 then (
      K al)
    else (
      vp_in p1 6 ∧ (
      vp_in p0 12 ∧ (
      vp_in p1 6 ∧ (
      vp_in (ai 43 p1.toNatClampNeg) 12 ∧ (
      vp_in p0 12 ∧ (
      vp_in p1 6 ∧ (zw_nm (va_up al 41 (vp_updL (al 41) p1.toNatClampNeg ((al 41 p1.toNatClampNeg) + (p2 * ((ai 44 p0.toNatClampNeg) - (ai (46 + (ai 43 p1.toNatClampNeg).toNatClampNeg) p0.toNatClampNeg)).toInt64)))) (fun (al_76 : Nat → Nat → Int64) =>
      K al_76))))))))))
  else (
    vp_in p1 6 ∧ (
    vp_in p0 12 ∧ (
    vp_in p1 6 ∧ (zw_nm (va_up al 41 (vp_updL (al 41) p1.toNatClampNeg ((al 41 p1.toNatClampNeg) + (p2 * ((1000 : Int32) + (ai 44 p0.toNatClampNeg)).toInt64)))) (fun (al_32 : Nat → Nat → Int64) =>
    K al_32))))))
theorem d_Wa_lift_0 : decode b_Wa_lift 0 = .ok (.aload_n 0, 1) := by decide +kernel
theorem d_Wa_lift_1 : decode b_Wa_lift 1 = .ok (.getfield 76, 3) := by decide +kernel
theorem d_Wa_lift_4 : decode b_Wa_lift 4 = .ok (.iload_n 2, 1) := by decide +kernel
theorem d_Wa_lift_5 : decode b_Wa_lift 5 = .ok (.invokestatic 88, 3) := by decide +kernel
theorem d_Wa_lift_8 : decode b_Wa_lift 8 = .ok (.ifCond .eq (28), 3) := by decide +kernel
theorem d_Wa_lift_11 : decode b_Wa_lift 11 = .ok (.aload_n 0, 1) := by decide +kernel
theorem d_Wa_lift_12 : decode b_Wa_lift 12 = .ok (.getfield 9, 3) := by decide +kernel
theorem d_Wa_lift_15 : decode b_Wa_lift 15 = .ok (.iload_n 2, 1) := by decide +kernel
theorem d_Wa_lift_16 : decode b_Wa_lift 16 = .ok (.dup2, 1) := by decide +kernel
theorem d_Wa_lift_17 : decode b_Wa_lift 17 = .ok (.laload, 1) := by decide +kernel
theorem d_Wa_lift_18 : decode b_Wa_lift 18 = .ok (.lload_n 3, 1) := by decide +kernel
theorem d_Wa_lift_19 : decode b_Wa_lift 19 = .ok (.sipush (1000), 3) := by decide +kernel
theorem d_Wa_lift_22 : decode b_Wa_lift 22 = .ok (.aload_n 0, 1) := by decide +kernel
theorem d_Wa_lift_23 : decode b_Wa_lift 23 = .ok (.getfield 22, 3) := by decide +kernel
theorem d_Wa_lift_26 : decode b_Wa_lift 26 = .ok (.iload_n 1, 1) := by decide +kernel
theorem d_Wa_lift_27 : decode b_Wa_lift 27 = .ok (.iaload, 1) := by decide +kernel
theorem d_Wa_lift_28 : decode b_Wa_lift 28 = .ok (.iadd, 1) := by decide +kernel
theorem d_Wa_lift_29 : decode b_Wa_lift 29 = .ok (.i2l, 1) := by decide +kernel
theorem d_Wa_lift_30 : decode b_Wa_lift 30 = .ok (.lmul, 1) := by decide +kernel
theorem d_Wa_lift_31 : decode b_Wa_lift 31 = .ok (.ladd, 1) := by decide +kernel
theorem d_Wa_lift_32 : decode b_Wa_lift 32 = .ok (.lastore, 1) := by decide +kernel
theorem d_Wa_lift_33 : decode b_Wa_lift 33 = .ok (.goto (44), 3) := by decide +kernel
theorem d_Wa_lift_36 : decode b_Wa_lift 36 = .ok (.aload_n 0, 1) := by decide +kernel
theorem d_Wa_lift_37 : decode b_Wa_lift 37 = .ok (.getfield 18, 3) := by decide +kernel
theorem d_Wa_lift_40 : decode b_Wa_lift 40 = .ok (.iload_n 2, 1) := by decide +kernel
theorem d_Wa_lift_41 : decode b_Wa_lift 41 = .ok (.iaload, 1) := by decide +kernel
theorem d_Wa_lift_42 : decode b_Wa_lift 42 = .ok (.ifCond .lt (35), 3) := by decide +kernel
theorem d_Wa_lift_45 : decode b_Wa_lift 45 = .ok (.aload_n 0, 1) := by decide +kernel
theorem d_Wa_lift_46 : decode b_Wa_lift 46 = .ok (.getfield 9, 3) := by decide +kernel
theorem d_Wa_lift_49 : decode b_Wa_lift 49 = .ok (.iload_n 2, 1) := by decide +kernel
theorem d_Wa_lift_50 : decode b_Wa_lift 50 = .ok (.dup2, 1) := by decide +kernel
theorem d_Wa_lift_51 : decode b_Wa_lift 51 = .ok (.laload, 1) := by decide +kernel
theorem d_Wa_lift_52 : decode b_Wa_lift 52 = .ok (.lload_n 3, 1) := by decide +kernel
theorem d_Wa_lift_53 : decode b_Wa_lift 53 = .ok (.aload_n 0, 1) := by decide +kernel
theorem d_Wa_lift_54 : decode b_Wa_lift 54 = .ok (.getfield 22, 3) := by decide +kernel
theorem d_Wa_lift_57 : decode b_Wa_lift 57 = .ok (.iload_n 1, 1) := by decide +kernel
theorem d_Wa_lift_58 : decode b_Wa_lift 58 = .ok (.iaload, 1) := by decide +kernel
theorem d_Wa_lift_59 : decode b_Wa_lift 59 = .ok (.aload_n 0, 1) := by decide +kernel
theorem d_Wa_lift_60 : decode b_Wa_lift 60 = .ok (.getfield 27, 3) := by decide +kernel
theorem d_Wa_lift_63 : decode b_Wa_lift 63 = .ok (.aload_n 0, 1) := by decide +kernel
theorem d_Wa_lift_64 : decode b_Wa_lift 64 = .ok (.getfield 18, 3) := by decide +kernel
theorem d_Wa_lift_67 : decode b_Wa_lift 67 = .ok (.iload_n 2, 1) := by decide +kernel
theorem d_Wa_lift_68 : decode b_Wa_lift 68 = .ok (.iaload, 1) := by decide +kernel
theorem d_Wa_lift_69 : decode b_Wa_lift 69 = .ok (.aaload, 1) := by decide +kernel
theorem d_Wa_lift_70 : decode b_Wa_lift 70 = .ok (.iload_n 1, 1) := by decide +kernel
theorem d_Wa_lift_71 : decode b_Wa_lift 71 = .ok (.iaload, 1) := by decide +kernel
theorem d_Wa_lift_72 : decode b_Wa_lift 72 = .ok (.isub, 1) := by decide +kernel
theorem d_Wa_lift_73 : decode b_Wa_lift 73 = .ok (.i2l, 1) := by decide +kernel
theorem d_Wa_lift_74 : decode b_Wa_lift 74 = .ok (.lmul, 1) := by decide +kernel
theorem d_Wa_lift_75 : decode b_Wa_lift 75 = .ok (.ladd, 1) := by decide +kernel
theorem d_Wa_lift_76 : decode b_Wa_lift 76 = .ok (.lastore, 1) := by decide +kernel
theorem d_Wa_lift_77 : decode b_Wa_lift 77 = .ok (.return_, 1) := by decide +kernel
set_option maxHeartbeats 4000000 in
set_option maxRecDepth 100000 in
theorem c_Wa_lift (l : Launch) (dC : Nat → ClassId) (dI : Nat → Nat → Nat) (cI cJ cG cZ : ClassId) (a : Nat → Nat) (sz : Nat) (fi : Nat → Int32) (fl : Nat → Int64) (ai : Nat → Nat → Int32) (al : Nat → Nat → Int64) (p0 : Int32) (p1 : Int32) (p2 : Int64) (K : (Nat → Nat → Int64) → Prop) (hw : Wa_lift_w fi fl ai al p0 p1 p2 K) : Met l y_Wa_lift ws_Wa_lift ({ frames := 1, cells := 0, slots := 0, locals := 21 }) (va_Pc [.ref (a 40), .int p0, .int p1, .long p2] (zw_Bw (dC, dI) vwCl [(cI, .int), (cJ, .long), (cG, .array .int), (cZ, .boolean)] (cw cI cJ cG cZ a fi fl ai al) sz)) (va_Qv (fun (u : zw_Z) => (zw_k_alv fi fl ai K) u.1 u.2.1 u.2.2.1 u.2.2.2) (fun u t => zw_E (dC, dI) vwCl [(cI, .int), (cJ, .long), (cG, .array .int), (cZ, .boolean)] (va_A (cw cI cJ cG cZ a fi fl ai al) sz) (cw cI cJ cG cZ a u.1 u.2.1 u.2.2.1 u.2.2.2) t) (va_A (cw cI cJ cG cZ a fi fl ai al) sz)) 0 0 (va_A (cw cI cJ cG cZ a fi fl ai al) sz) := by
  refine Met.ofW (cc := b_Wa_lift) (maxL := 5) (ret := (Option.none : Option FieldType)) (by decide) rfl ?_
  intro p e s m args below meth c s₁ B hml hv
  obtain ⟨rfl, hsz, hP, hK, hD0, hN⟩ := hv
  have hx := B.exec
  have hb := B.bytes
  have hr := B.returns
  have hts := atoms_spec (ws := ws_Wa_lift) B.pre
  have ht : ∀ w ∈ zw_tbl, w.before _ s = true := fun w h => hts w (List.mem_cons_of_mem _ h)
  have hown : s.vm.findClass R_Wa = some m.cls := findClass_of_methodNamed B.named
  have hlocks := B.notSynchronized
  subst hsz
  have hD := hD0.self (sz := s.heap.size)
  generalize hAe : va_A (cw cI cJ cG cZ a fi fl ai al) s.heap.size = A at hD ⊢
  have hA : ∀ q : Nat, s.heap.size ≤ q → A q := fun q h => by rw [← hAe]; exact Or.inr h
  have hS : va_S A s.heap s.heap [] := va_S.rf
  have hl := lv_entry ([.ref (a 40), .int p0, .int p1, .long p2] : List Value) (n := 5) (Nat.le_of_ble_eq_true rfl)
  rw [lg_entry_eq]
  generalize (lg_sl ([.ref (a 40), .int p0, .int p1, .long p2] : List Value) ++ List.replicate (5 - (lg_sl ([.ref (a 40), .int p0, .int p1, .long p2] : List Value)).length) Slot.unset).toArray = ls at hl ⊢
  have hl : lv_has ls 5 [(0, .ref (a 40)), (1, .int p0), (2, .int p1), (3, .long p2)] := hl
  unfold Wa_lift_w at hw
  obtain ⟨H, hH⟩ : ∃ H, H = s.heap := ⟨_, rfl⟩
  obtain ⟨locs, hlo⟩ : ∃ q : List Loc, q = [] := ⟨_, rfl⟩
  have hP : va_P (dC, dI) vwCl (cw cI cJ cG cZ a fi fl ai al) H := by rw [hH]; exact hP
  have hS : va_S A s.heap H locs := by rw [hH, hlo]; exact hS
  have key : W p l e (headSpec ws_Wa_lift ({ frames := 1, cells := 0, slots := 0, locals := 21 })).room s m ([.ref (a 40), .int p0, .int p1, .long p2] : List Value).toArray below meth c H locs 0 0 (MQ below (va_Qv (fun (u : zw_Z) => (zw_k_alv fi fl ai K) u.1 u.2.1 u.2.2.1 u.2.2.2) (fun u t => zw_E (dC, dI) vwCl [(cI, .int), (cJ, .long), (cG, .array .int), (cZ, .boolean)] A (cw cI cJ cG cZ a u.1 u.2.1 u.2.2.1 u.2.2.2) t) A) ([.ref (a 40), .int p0, .int p1, .long p2] : List Value).toArray s 0 0 A) (F0 m 0 ls []) := by
    refine lv_aload_n hx hb d_Wa_lift_0 rfl (lv_at hl 0 rfl) ?_
    refine va_get (D := (dC, dI)) (ci := 6) (v := .int (fi 9)) (C := R_Wa) (T := T_Wa) (N := 11) hx hb ht in_Wa hown hK hP 40 rfl rfl 9 (by decide) (ht _ kw_187) (fun _ h9 => h9) rfl d_Wa_lift_1 ?_
    refine lv_iload_n hx hb d_Wa_lift_4 rfl (lv_at hl 2 rfl) ?_
    refine vp_callSi (va_Run.run (va_runSN (As := [.int (fi 9), .int p1]) (rest := []) ⟨hx, hb, hml, hown, hts⟩ (c_SS_hasBit l (fi 9) p1 _ hw) ⟨va_cnB 2 hts (zw_goodC kw_321) rfl rfl rfl (hN _ nw_463) (ht _ kw_1) hd_SS_hasBit.2 ⟨Nat.le_of_ble_eq_true rfl, Nat.le_of_ble_eq_true rfl⟩, ht _ kw_320, trivial⟩ zw_preS0 rfl rfl hl.1 rfl (lv_room (Nat.le_of_ble_eq_true rfl)) d_Wa_lift_5 ⟨Nat.le_of_ble_eq_true rfl, Nat.le_of_ble_eq_true rfl⟩)) (fun r5 hw => ?_)
    refine lv_if_eq (tgt := 36) hx hb d_Wa_lift_8 (by decide) (fun c8 => ?_) (fun c8 => ?_)
    · have hw := zw_ite_t c8 hw
      refine lv_aload_n hx hb d_Wa_lift_36 rfl (lv_at hl 0 rfl) ?_
      refine va_get (D := (dC, dI)) (ci := 6) (v := .ref (a 43)) (C := R_Wa) (T := T_Wa) (N := 11) hx hb ht in_Wa hown hK hP 40 rfl rfl 5 (by decide) (ht _ kw_183) (fun _ h9 => h9) rfl d_Wa_lift_37 ?_
      refine lv_iload_n hx hb d_Wa_lift_40 rfl (lv_at hl 2 rfl) ?_
      obtain ⟨h41, hw⟩ := hw
      refine va_iald (f := ai 43) hx hb hK hP 43 0 rfl rfl h41 d_Wa_lift_41 ?_
      refine lv_if_lt (tgt := 77) hx hb d_Wa_lift_42 (by decide) (fun c42 => ?_) (fun c42 => ?_)
      · have hw := zw_ite_t c42 hw
        exact W.vret hx hb hr (fun t ht hW => ⟨⟨(fi, fl, ai, al), rfl, ⟨rfl, rfl, rfl, hw⟩, by rw [ht]; exact hP, va_K.moved hW.alike hK, hD⟩, hS.F ht⟩) hS.2.2 d_Wa_lift_77
      · have hw := zw_ite_f c42 hw
        refine lv_aload_n hx hb d_Wa_lift_45 rfl (lv_at hl 0 rfl) ?_
        refine va_get (D := (dC, dI)) (ci := 6) (v := .ref (a 41)) (C := R_Wa) (T := T_Wa) (N := 11) hx hb ht in_Wa hown hK hP 40 rfl rfl 3 (by decide) (ht _ kw_179) (fun _ h9 => h9) rfl d_Wa_lift_46 ?_
        refine lv_iload_n hx hb d_Wa_lift_49 rfl (lv_at hl 2 rfl) ?_
        refine lv_dup2_11 hx hb d_Wa_lift_50 rfl rfl ?_
        obtain ⟨h51, hw⟩ := hw
        refine va_lald (f := al 41) hx hb hK hP 41 1 rfl rfl h51 d_Wa_lift_51 ?_
        refine lv_lload_n hx hb d_Wa_lift_52 rfl (lv_at hl 3 rfl) ?_
        refine lv_aload_n hx hb d_Wa_lift_53 rfl (lv_at hl 0 rfl) ?_
        refine va_get (D := (dC, dI)) (ci := 6) (v := .ref (a 44)) (C := R_Wa) (T := T_Wa) (N := 11) hx hb ht in_Wa hown hK hP 40 rfl rfl 6 (by decide) (ht _ kw_184) (fun _ h9 => h9) rfl d_Wa_lift_54 ?_
        refine lv_iload_n hx hb d_Wa_lift_57 rfl (lv_at hl 1 rfl) ?_
        obtain ⟨h58, hw⟩ := hw
        refine va_iald (f := ai 44) hx hb hK hP 44 0 rfl rfl h58 d_Wa_lift_58 ?_
        refine lv_aload_n hx hb d_Wa_lift_59 rfl (lv_at hl 0 rfl) ?_
        refine va_get (D := (dC, dI)) (ci := 6) (v := .ref (a 45)) (C := R_Wa) (T := T_Wa) (N := 11) hx hb ht in_Wa hown hK hP 40 rfl rfl 7 (by decide) (ht _ kw_185) (fun _ h9 => h9) rfl d_Wa_lift_60 ?_
        refine lv_aload_n hx hb d_Wa_lift_63 rfl (lv_at hl 0 rfl) ?_
        refine va_get (D := (dC, dI)) (ci := 6) (v := .ref (a 43)) (C := R_Wa) (T := T_Wa) (N := 11) hx hb ht in_Wa hown hK hP 40 rfl rfl 5 (by decide) (ht _ kw_183) (fun _ h9 => h9) rfl d_Wa_lift_64 ?_
        refine lv_iload_n hx hb d_Wa_lift_67 rfl (lv_at hl 2 rfl) ?_
        obtain ⟨h68, hw⟩ := hw
        refine va_iald (f := ai 43) hx hb hK hP 43 0 rfl rfl h68 d_Wa_lift_68 ?_
        obtain ⟨h69, hw⟩ := hw
        refine zw_aald (b := a (46 + (ai 43 p1.toNatClampNeg).toNatClampNeg)) hx hb hK hP 45 2 rfl rfl h69 (if_pos (zw_lt h69)) d_Wa_lift_69 ?_
        refine lv_iload_n hx hb d_Wa_lift_70 rfl (lv_at hl 1 rfl) ?_
        obtain ⟨h71, hw⟩ := hw
        refine va_iald (f := ai (46 + (ai 43 p1.toNatClampNeg).toNatClampNeg)) hx hb hK hP (46 + (ai 43 p1.toNatClampNeg).toNatClampNeg) 0 (cw_row45 _ _ _ _ _ _ _ _ _ _ (zw_lt h69)) rfl h71 d_Wa_lift_71 ?_
        refine lv_isub hx hb d_Wa_lift_72 ?_
        refine lv_i2l hx hb d_Wa_lift_73 rfl ?_
        refine lv_lmul hx hb d_Wa_lift_74 ?_
        refine lv_ladd hx hb d_Wa_lift_75 ?_
        obtain ⟨h76, hw⟩ := hw
        refine va_last (f := al 41) hx hb hK hP hD hS 41 1 rfl rfl h76 d_Wa_lift_76 (fun H locs hP hD hS => ?_)
        have hP := cwpal_41 hP
        have hD := cwdal_41 hD
        obtain ⟨al_76, eal_76⟩ : ∃ z, z = va_up al 41 (vp_updL (al 41) p1.toNatClampNeg ((al 41 p1.toNatClampNeg) + (p2 * ((ai 44 p0.toNatClampNeg) - (ai (46 + (ai 43 p1.toNatClampNeg).toNatClampNeg) p0.toNatClampNeg)).toInt64))) := ⟨_, rfl⟩
        rw [← eal_76] at hP hD
        have hw := zw_nm_x eal_76 hw
        exact W.vret hx hb hr (fun t ht hW => ⟨⟨(fi, fl, ai, al_76), rfl, ⟨rfl, rfl, rfl, hw⟩, by rw [ht]; exact hP, va_K.moved hW.alike hK, hD⟩, hS.F ht⟩) hS.2.2 d_Wa_lift_77
    · have hw := zw_ite_f c8 hw
      refine lv_aload_n hx hb d_Wa_lift_11 rfl (lv_at hl 0 rfl) ?_
      refine va_get (D := (dC, dI)) (ci := 6) (v := .ref (a 41)) (C := R_Wa) (T := T_Wa) (N := 11) hx hb ht in_Wa hown hK hP 40 rfl rfl 3 (by decide) (ht _ kw_179) (fun _ h9 => h9) rfl d_Wa_lift_12 ?_
      refine lv_iload_n hx hb d_Wa_lift_15 rfl (lv_at hl 2 rfl) ?_
      refine lv_dup2_11 hx hb d_Wa_lift_16 rfl rfl ?_
      obtain ⟨h17, hw⟩ := hw
      refine va_lald (f := al 41) hx hb hK hP 41 1 rfl rfl h17 d_Wa_lift_17 ?_
      refine lv_lload_n hx hb d_Wa_lift_18 rfl (lv_at hl 3 rfl) ?_
      refine lv_sipush (v := (1000 : Int32)) hx hb d_Wa_lift_19 (by decide) ?_
      refine lv_aload_n hx hb d_Wa_lift_22 rfl (lv_at hl 0 rfl) ?_
      refine va_get (D := (dC, dI)) (ci := 6) (v := .ref (a 44)) (C := R_Wa) (T := T_Wa) (N := 11) hx hb ht in_Wa hown hK hP 40 rfl rfl 6 (by decide) (ht _ kw_184) (fun _ h9 => h9) rfl d_Wa_lift_23 ?_
      refine lv_iload_n hx hb d_Wa_lift_26 rfl (lv_at hl 1 rfl) ?_
      obtain ⟨h27, hw⟩ := hw
      refine va_iald (f := ai 44) hx hb hK hP 44 0 rfl rfl h27 d_Wa_lift_27 ?_
      refine lv_iadd hx hb d_Wa_lift_28 ?_
      refine lv_i2l hx hb d_Wa_lift_29 rfl ?_
      refine lv_lmul hx hb d_Wa_lift_30 ?_
      refine lv_ladd hx hb d_Wa_lift_31 ?_
      obtain ⟨h32, hw⟩ := hw
      refine va_last (f := al 41) hx hb hK hP hD hS 41 1 rfl rfl h32 d_Wa_lift_32 (fun H locs hP hD hS => ?_)
      have hP := cwpal_41 hP
      have hD := cwdal_41 hD
      obtain ⟨al_32, eal_32⟩ : ∃ z, z = va_up al 41 (vp_updL (al 41) p1.toNatClampNeg ((al 41 p1.toNatClampNeg) + (p2 * ((1000 : Int32) + (ai 44 p0.toNatClampNeg)).toInt64))) := ⟨_, rfl⟩
      rw [← eal_32] at hP hD
      have hw := zw_nm_x eal_32 hw
      refine lv_goto (tgt := 77) hx hb d_Wa_lift_33 (by decide) ?_
      exact W.vret hx hb hr (fun t ht hW => ⟨⟨(fi, fl, ai, al_32), rfl, ⟨rfl, rfl, rfl, hw⟩, by rw [ht]; exact hP, va_K.moved hW.alike hK, hD⟩, hS.F ht⟩) hS.2.2 d_Wa_lift_77
  rw [hH, hlo] at key
  exact key
def Wa_press_w (fi : Nat → Int32) (fl : Nat → Int64) (ai : Nat → Nat → Int32) (al : Nat → Nat → Int64) (p0 : Int32) (p1 : Int32) (p2 : Int32) (K : (Nat → Nat → Int64) → Prop) : Prop :=
  zw_nm (0 : Int32) (fun (v1 : Int32) =>
  zw_lp2 (fun L3 (x3_4 : Int32) (al3 : Nat → Nat → Int64) =>
  if (fi 7) ≤ x3_4 then (
    zw_nm (0 : Int32) (fun (v57 : Int32) =>
    zw_lp2 (fun L59 (x59_4 : Int32) (al59 : Nat → Nat → Int64) =>
    if (3 : Int32) ≤ x59_4 then (
      K al59)
    else (
      SS_hasBit_w (fi 10) x59_4 (fun (r71 : Int32) =>
      zw_jn1 (fun (al102 : Nat → Nat → Int64) =>
      zw_nm (x59_4 + (1 : Int32)) (fun (v102 : Int32) =>
      L59 v102 al102)) (fun J102 =>
      if r71 = 0 then (
        J102 al59)
      else (
        vp_in x59_4 3 ∧ (
        vp_in x59_4 3 ∧ (
        vp_in p1 6 ∧ (
        vp_in x59_4 3 ∧ (zw_nm (va_up al59 42 (vp_updL (al59 42) x59_4.toNatClampNeg ((al59 42 x59_4.toNatClampNeg) + (p2 * (ai (32 + x59_4.toNatClampNeg) p1.toNatClampNeg)).toInt64))) (fun (al_101 : Nat → Nat → Int64) =>
        J102 al_101)))))))))) v57 al3))
  else (
    vp_in (fi 10) 8 ∧ (
    vp_in ((x3_4 * (6 : Int32)) + p1) 36 ∧ (
    Wa_lift_w fi fl ai al3 p0 x3_4 ((p2.toInt64 * (1000 : Int64)) * (ai (23 + (fi 10).toNatClampNeg) ((x3_4 * (6 : Int32)) + p1).toNatClampNeg).toInt64) (fun (al_47 : Nat → Nat → Int64) =>
    zw_nm (x3_4 + (1 : Int32)) (fun (v50 : Int32) =>
    L3 v50 al_47)))))) v1 al)
theorem d_Wa_press_0 : decode b_Wa_press 0 = .ok (.iconst 0, 1) := by decide +kernel
theorem d_Wa_press_1 : decode b_Wa_press 1 = .ok (.istore 4, 2) := by decide +kernel
theorem d_Wa_press_3 : decode b_Wa_press 3 = .ok (.iload 4, 2) := by decide +kernel
theorem d_Wa_press_5 : decode b_Wa_press 5 = .ok (.aload_n 0, 1) := by decide +kernel
theorem d_Wa_press_6 : decode b_Wa_press 6 = .ok (.getfield 30, 3) := by decide +kernel
theorem d_Wa_press_9 : decode b_Wa_press 9 = .ok (.getfield 102, 3) := by decide +kernel
theorem d_Wa_press_12 : decode b_Wa_press 12 = .ok (.if_icmp .ge (44), 3) := by decide +kernel
theorem d_Wa_press_15 : decode b_Wa_press 15 = .ok (.aload_n 0, 1) := by decide +kernel
theorem d_Wa_press_16 : decode b_Wa_press 16 = .ok (.iload_n 1, 1) := by decide +kernel
theorem d_Wa_press_17 : decode b_Wa_press 17 = .ok (.iload 4, 2) := by decide +kernel
theorem d_Wa_press_19 : decode b_Wa_press 19 = .ok (.iload_n 3, 1) := by decide +kernel
theorem d_Wa_press_20 : decode b_Wa_press 20 = .ok (.i2l, 1) := by decide +kernel
theorem d_Wa_press_21 : decode b_Wa_press 21 = .ok (.ldc2_w 130, 3) := by decide +kernel
theorem d_Wa_press_24 : decode b_Wa_press 24 = .ok (.lmul, 1) := by decide +kernel
theorem d_Wa_press_25 : decode b_Wa_press 25 = .ok (.aload_n 0, 1) := by decide +kernel
theorem d_Wa_press_26 : decode b_Wa_press 26 = .ok (.getfield 30, 3) := by decide +kernel
theorem d_Wa_press_29 : decode b_Wa_press 29 = .ok (.getfield 132, 3) := by decide +kernel
theorem d_Wa_press_32 : decode b_Wa_press 32 = .ok (.aload_n 0, 1) := by decide +kernel
theorem d_Wa_press_33 : decode b_Wa_press 33 = .ok (.getfield 95, 3) := by decide +kernel
theorem d_Wa_press_36 : decode b_Wa_press 36 = .ok (.aaload, 1) := by decide +kernel
theorem d_Wa_press_37 : decode b_Wa_press 37 = .ok (.iload 4, 2) := by decide +kernel
theorem d_Wa_press_39 : decode b_Wa_press 39 = .ok (.bipush (6), 2) := by decide +kernel
theorem d_Wa_press_41 : decode b_Wa_press 41 = .ok (.imul, 1) := by decide +kernel
theorem d_Wa_press_42 : decode b_Wa_press 42 = .ok (.iload_n 2, 1) := by decide +kernel
theorem d_Wa_press_43 : decode b_Wa_press 43 = .ok (.iadd, 1) := by decide +kernel
theorem d_Wa_press_44 : decode b_Wa_press 44 = .ok (.iaload, 1) := by decide +kernel
theorem d_Wa_press_45 : decode b_Wa_press 45 = .ok (.i2l, 1) := by decide +kernel
theorem d_Wa_press_46 : decode b_Wa_press 46 = .ok (.lmul, 1) := by decide +kernel
theorem d_Wa_press_47 : decode b_Wa_press 47 = .ok (.invokevirtual 135, 3) := by decide +kernel
theorem d_Wa_press_50 : decode b_Wa_press 50 = .ok (.iinc 4 (1), 3) := by decide +kernel
theorem d_Wa_press_53 : decode b_Wa_press 53 = .ok (.goto (-50), 3) := by decide +kernel
theorem d_Wa_press_56 : decode b_Wa_press 56 = .ok (.iconst 0, 1) := by decide +kernel
theorem d_Wa_press_57 : decode b_Wa_press 57 = .ok (.istore 4, 2) := by decide +kernel
theorem d_Wa_press_59 : decode b_Wa_press 59 = .ok (.iload 4, 2) := by decide +kernel
theorem d_Wa_press_61 : decode b_Wa_press 61 = .ok (.iconst 3, 1) := by decide +kernel
theorem d_Wa_press_62 : decode b_Wa_press 62 = .ok (.if_icmp .ge (46), 3) := by decide +kernel
theorem d_Wa_press_65 : decode b_Wa_press 65 = .ok (.aload_n 0, 1) := by decide +kernel
theorem d_Wa_press_66 : decode b_Wa_press 66 = .ok (.getfield 95, 3) := by decide +kernel
theorem d_Wa_press_69 : decode b_Wa_press 69 = .ok (.iload 4, 2) := by decide +kernel
theorem d_Wa_press_71 : decode b_Wa_press 71 = .ok (.invokestatic 88, 3) := by decide +kernel
theorem d_Wa_press_74 : decode b_Wa_press 74 = .ok (.ifCond .eq (28), 3) := by decide +kernel
theorem d_Wa_press_77 : decode b_Wa_press 77 = .ok (.aload_n 0, 1) := by decide +kernel
theorem d_Wa_press_78 : decode b_Wa_press 78 = .ok (.getfield 15, 3) := by decide +kernel
theorem d_Wa_press_81 : decode b_Wa_press 81 = .ok (.iload 4, 2) := by decide +kernel
theorem d_Wa_press_83 : decode b_Wa_press 83 = .ok (.dup2, 1) := by decide +kernel
theorem d_Wa_press_84 : decode b_Wa_press 84 = .ok (.laload, 1) := by decide +kernel
theorem d_Wa_press_85 : decode b_Wa_press 85 = .ok (.iload_n 3, 1) := by decide +kernel
theorem d_Wa_press_86 : decode b_Wa_press 86 = .ok (.aload_n 0, 1) := by decide +kernel
theorem d_Wa_press_87 : decode b_Wa_press 87 = .ok (.getfield 30, 3) := by decide +kernel
theorem d_Wa_press_90 : decode b_Wa_press 90 = .ok (.getfield 139, 3) := by decide +kernel
theorem d_Wa_press_93 : decode b_Wa_press 93 = .ok (.iload 4, 2) := by decide +kernel
theorem d_Wa_press_95 : decode b_Wa_press 95 = .ok (.aaload, 1) := by decide +kernel
theorem d_Wa_press_96 : decode b_Wa_press 96 = .ok (.iload_n 2, 1) := by decide +kernel
theorem d_Wa_press_97 : decode b_Wa_press 97 = .ok (.iaload, 1) := by decide +kernel
theorem d_Wa_press_98 : decode b_Wa_press 98 = .ok (.imul, 1) := by decide +kernel
theorem d_Wa_press_99 : decode b_Wa_press 99 = .ok (.i2l, 1) := by decide +kernel
theorem d_Wa_press_100 : decode b_Wa_press 100 = .ok (.ladd, 1) := by decide +kernel
theorem d_Wa_press_101 : decode b_Wa_press 101 = .ok (.lastore, 1) := by decide +kernel
theorem d_Wa_press_102 : decode b_Wa_press 102 = .ok (.iinc 4 (1), 3) := by decide +kernel
theorem d_Wa_press_105 : decode b_Wa_press 105 = .ok (.goto (-46), 3) := by decide +kernel
theorem d_Wa_press_108 : decode b_Wa_press 108 = .ok (.return_, 1) := by decide +kernel
set_option maxHeartbeats 4000000 in
set_option maxRecDepth 100000 in
theorem c_Wa_press (l : Launch) (dC : Nat → ClassId) (dI : Nat → Nat → Nat) (cI cJ cG cZ : ClassId) (a : Nat → Nat) (sz : Nat) (fi : Nat → Int32) (fl : Nat → Int64) (ai : Nat → Nat → Int32) (al : Nat → Nat → Int64) (p0 : Int32) (p1 : Int32) (p2 : Int32) (K : (Nat → Nat → Int64) → Prop) (hw : Wa_press_w fi fl ai al p0 p1 p2 K) : Met l y_Wa_press ws_Wa_press ({ frames := 2, cells := 0, slots := 0, locals := 45 }) (va_Pc [.ref (a 40), .int p0, .int p1, .int p2] (zw_Bw (dC, dI) vwCl [(cI, .int), (cJ, .long), (cG, .array .int), (cZ, .boolean)] (cw cI cJ cG cZ a fi fl ai al) sz)) (va_Qv (fun (u : zw_Z) => (zw_k_alv fi fl ai K) u.1 u.2.1 u.2.2.1 u.2.2.2) (fun u t => zw_E (dC, dI) vwCl [(cI, .int), (cJ, .long), (cG, .array .int), (cZ, .boolean)] (va_A (cw cI cJ cG cZ a fi fl ai al) sz) (cw cI cJ cG cZ a u.1 u.2.1 u.2.2.1 u.2.2.2) t) (va_A (cw cI cJ cG cZ a fi fl ai al) sz)) 0 0 (va_A (cw cI cJ cG cZ a fi fl ai al) sz) := by
  refine Met.ofW (cc := b_Wa_press) (maxL := 5) (ret := (Option.none : Option FieldType)) (by decide) rfl ?_
  intro p e s m args below meth c s₁ B hml hv
  obtain ⟨rfl, hsz, hP, hK, hD0, hN⟩ := hv
  have hx := B.exec
  have hb := B.bytes
  have hr := B.returns
  have hts := atoms_spec (ws := ws_Wa_press) B.pre
  have ht : ∀ w ∈ zw_tbl, w.before _ s = true := fun w h => hts w (List.mem_cons_of_mem _ h)
  have hown : s.vm.findClass R_Wa = some m.cls := findClass_of_methodNamed B.named
  have hlocks := B.notSynchronized
  subst hsz
  have hD := hD0.self (sz := s.heap.size)
  generalize hAe : va_A (cw cI cJ cG cZ a fi fl ai al) s.heap.size = A at hD ⊢
  have hA : ∀ q : Nat, s.heap.size ≤ q → A q := fun q h => by rw [← hAe]; exact Or.inr h
  have hS : va_S A s.heap s.heap [] := va_S.rf
  have hl := lv_entry ([.ref (a 40), .int p0, .int p1, .int p2] : List Value) (n := 5) (Nat.le_of_ble_eq_true rfl)
  rw [lg_entry_eq]
  generalize (lg_sl ([.ref (a 40), .int p0, .int p1, .int p2] : List Value) ++ List.replicate (5 - (lg_sl ([.ref (a 40), .int p0, .int p1, .int p2] : List Value)).length) Slot.unset).toArray = ls at hl ⊢
  have hl : lv_has ls 5 [(0, .ref (a 40)), (1, .int p0), (2, .int p1), (3, .int p2)] := hl
  unfold Wa_press_w at hw
  obtain ⟨H, hH⟩ : ∃ H, H = s.heap := ⟨_, rfl⟩
  obtain ⟨locs, hlo⟩ : ∃ q : List Loc, q = [] := ⟨_, rfl⟩
  have hP : va_P (dC, dI) vwCl (cw cI cJ cG cZ a fi fl ai al) H := by rw [hH]; exact hP
  have hS : va_S A s.heap H locs := by rw [hH, hlo]; exact hS
  have key : W p l e (headSpec ws_Wa_press ({ frames := 2, cells := 0, slots := 0, locals := 45 })).room s m ([.ref (a 40), .int p0, .int p1, .int p2] : List Value).toArray below meth c H locs 0 0 (MQ below (va_Qv (fun (u : zw_Z) => (zw_k_alv fi fl ai K) u.1 u.2.1 u.2.2.1 u.2.2.2) (fun u t => zw_E (dC, dI) vwCl [(cI, .int), (cJ, .long), (cG, .array .int), (cZ, .boolean)] A (cw cI cJ cG cZ a u.1 u.2.1 u.2.2.1 u.2.2.2) t) A) ([.ref (a 40), .int p0, .int p1, .int p2] : List Value).toArray s 0 0 A) (F0 m 0 ls []) := by
    refine lv_iconst (v := (0 : Int32)) hx hb d_Wa_press_0 (by decide) ?_
    refine lv_topi (fun v1 ev1 => ?_)
    have hw := zw_nm_x ev1 hw
    refine lv_istore (lv' := [(4, .int v1), (0, .ref (a 40)), (1, .int p0), (2, .int p1), (3, .int p2)]) hx hb d_Wa_press_1 hl (by decide) rfl (fun ls hl => ?_)
    refine (zw_lp2_i (P := fun (x3_4 : Int32) (al3 : Nat → Nat → Int64) => ∀ (H : Heap) (locs : List Loc) (ls : Array Slot), va_P (dC, dI) vwCl (cw cI cJ cG cZ a fi fl ai al3) H → va_D A (cw cI cJ cG cZ a fi fl ai al3) → va_S A s.heap H locs → lv_has ls 5 [(0, .ref (a 40)), (1, .int p0), (2, .int p1), (3, .int p2), (4, .int x3_4)] → W p l e (headSpec ws_Wa_press ({ frames := 2, cells := 0, slots := 0, locals := 45 })).room s m ([.ref (a 40), .int p0, .int p1, .int p2] : List Value).toArray below meth c H locs 0 0 (MQ below (va_Qv (fun (u : zw_Z) => (zw_k_alv fi fl ai K) u.1 u.2.1 u.2.2.1 u.2.2.2) (fun u t => zw_E (dC, dI) vwCl [(cI, .int), (cJ, .long), (cG, .array .int), (cZ, .boolean)] A (cw cI cJ cG cZ a u.1 u.2.1 u.2.2.1 u.2.2.2) t) A) ([.ref (a 40), .int p0, .int p1, .int p2] : List Value).toArray s 0 0 A) (F0 m 3 ls [])) hw (fun L3 x3_4 al3 ih3 hw H locs ls hP hD hS hl => ?_)) H locs ls hP hD hS (lv_sub hl [1, 2, 3, 4, 0] rfl)
    refine lv_iload hx hb d_Wa_press_3 (lv_at hl 4 rfl) ?_
    refine lv_aload_n hx hb d_Wa_press_5 rfl (lv_at hl 0 rfl) ?_
    refine va_get (D := (dC, dI)) (ci := 6) (v := .ref (a 19)) (C := R_Wa) (T := T_Wa) (N := 11) hx hb ht in_Wa hown hK hP 40 rfl rfl 0 (by decide) (ht _ kw_176) (fun _ h9 => h9) rfl d_Wa_press_6 ?_
    refine va_get (D := (dC, dI)) (ci := 2) (v := .int (fi 7)) (C := R_Gi) (T := T_Gi) (N := 7) hx hb ht in_Gi hown hK hP 19 rfl rfl 0 (by decide) (ht _ kw_136) (fun _ h9 => h9) rfl d_Wa_press_9 ?_
    refine lv_icmp_ge (tgt := 56) hx hb d_Wa_press_12 (by decide) (fun c12 => ?_) (fun c12 => ?_)
    · have hw := zw_ite_t c12 hw
      refine lv_iconst (v := (0 : Int32)) hx hb d_Wa_press_56 (by decide) ?_
      refine lv_topi (fun v57 ev57 => ?_)
      have hw := zw_nm_x ev57 hw
      refine lv_istore (lv' := [(4, .int v57), (0, .ref (a 40)), (1, .int p0), (2, .int p1), (3, .int p2)]) hx hb d_Wa_press_57 hl (by decide) rfl (fun ls hl => ?_)
      refine (zw_lp2_i (P := fun (x59_4 : Int32) (al59 : Nat → Nat → Int64) => ∀ (H : Heap) (locs : List Loc) (ls : Array Slot), va_P (dC, dI) vwCl (cw cI cJ cG cZ a fi fl ai al59) H → va_D A (cw cI cJ cG cZ a fi fl ai al59) → va_S A s.heap H locs → lv_has ls 5 [(0, .ref (a 40)), (2, .int p1), (3, .int p2), (4, .int x59_4)] → W p l e (headSpec ws_Wa_press ({ frames := 2, cells := 0, slots := 0, locals := 45 })).room s m ([.ref (a 40), .int p0, .int p1, .int p2] : List Value).toArray below meth c H locs 0 0 (MQ below (va_Qv (fun (u : zw_Z) => (zw_k_alv fi fl ai K) u.1 u.2.1 u.2.2.1 u.2.2.2) (fun u t => zw_E (dC, dI) vwCl [(cI, .int), (cJ, .long), (cG, .array .int), (cZ, .boolean)] A (cw cI cJ cG cZ a u.1 u.2.1 u.2.2.1 u.2.2.2) t) A) ([.ref (a 40), .int p0, .int p1, .int p2] : List Value).toArray s 0 0 A) (F0 m 59 ls [])) hw (fun L59 x59_4 al59 ih59 hw H locs ls hP hD hS hl => ?_)) H locs ls hP hD hS (lv_sub hl [1, 3, 4, 0] rfl)
      refine lv_iload hx hb d_Wa_press_59 (lv_at hl 3 rfl) ?_
      refine lv_iconst (v := (3 : Int32)) hx hb d_Wa_press_61 (by decide) ?_
      refine lv_icmp_ge (tgt := 108) hx hb d_Wa_press_62 (by decide) (fun c62 => ?_) (fun c62 => ?_)
      · have hw := zw_ite_t c62 hw
        exact W.vret hx hb hr (fun t ht hW => ⟨⟨(fi, fl, ai, al59), rfl, ⟨rfl, rfl, rfl, hw⟩, by rw [ht]; exact hP, va_K.moved hW.alike hK, hD⟩, hS.F ht⟩) hS.2.2 d_Wa_press_108
      · have hw := zw_ite_f c62 hw
        refine lv_aload_n hx hb d_Wa_press_65 rfl (lv_at hl 0 rfl) ?_
        refine va_get (D := (dC, dI)) (ci := 6) (v := .int (fi 10)) (C := R_Wa) (T := T_Wa) (N := 11) hx hb ht in_Wa hown hK hP 40 rfl rfl 10 (by decide) (ht _ kw_188) (fun _ h9 => h9) rfl d_Wa_press_66 ?_
        refine lv_iload hx hb d_Wa_press_69 (lv_at hl 3 rfl) ?_
        refine vp_callSi (va_Run.run (va_runSN (As := [.int (fi 10), .int x59_4]) (rest := []) ⟨hx, hb, hml, hown, hts⟩ (c_SS_hasBit l (fi 10) x59_4 _ hw) ⟨va_cnB 2 hts (zw_goodC kw_321) rfl rfl rfl (hN _ nw_463) (ht _ kw_1) hd_SS_hasBit.2 ⟨Nat.le_of_ble_eq_true rfl, Nat.le_of_ble_eq_true rfl⟩, ht _ kw_320, trivial⟩ zw_preS0 rfl rfl hl.1 rfl (lv_room (Nat.le_of_ble_eq_true rfl)) d_Wa_press_71 ⟨Nat.le_of_ble_eq_true rfl, Nat.le_of_ble_eq_true rfl⟩)) (fun r71 hw => ?_)
        refine zw_jn1_i (P := fun (al102 : Nat → Nat → Int64) => ∀ (H : Heap) (locs : List Loc) (ls : Array Slot), va_P (dC, dI) vwCl (cw cI cJ cG cZ a fi fl ai al102) H → va_D A (cw cI cJ cG cZ a fi fl ai al102) → va_S A s.heap H locs → lv_has ls 5 [(0, .ref (a 40)), (2, .int p1), (3, .int p2), (4, .int x59_4)] → W p l e (headSpec ws_Wa_press ({ frames := 2, cells := 0, slots := 0, locals := 45 })).room s m ([.ref (a 40), .int p0, .int p1, .int p2] : List Value).toArray below meth c H locs 0 0 (MQ below (va_Qv (fun (u : zw_Z) => (zw_k_alv fi fl ai K) u.1 u.2.1 u.2.2.1 u.2.2.2) (fun u t => zw_E (dC, dI) vwCl [(cI, .int), (cJ, .long), (cG, .array .int), (cZ, .boolean)] A (cw cI cJ cG cZ a u.1 u.2.1 u.2.2.1 u.2.2.2) t) A) ([.ref (a 40), .int p0, .int p1, .int p2] : List Value).toArray s 0 0 A) (F0 m 102 ls [])) hw (fun al102 hw H locs ls hP hD hS hl => ?_) (fun J102 hj102 hw => ?_)
        · obtain ⟨v102, ev102⟩ : ∃ y : Int32, y = x59_4 + (1 : Int32) := ⟨_, rfl⟩
          refine lv_iinc (v := v102) (lv' := [(4, .int v102), (0, .ref (a 40)), (2, .int p1), (3, .int p2)]) hx hb d_Wa_press_102 hl (k := 3) rfl (by rw [ev102]; rfl) (by decide) rfl (fun ls hl => ?_)
          have hw := zw_nm_x ev102 hw
          refine lv_goto (tgt := 59) hx hb d_Wa_press_105 (by decide) ?_
          exact (ih59 v102 al102 hw) H locs ls hP hD hS (lv_sub hl [1, 2, 3, 0] rfl)
        · refine lv_if_eq (tgt := 102) hx hb d_Wa_press_74 (by decide) (fun c74 => ?_) (fun c74 => ?_)
          · have hw := zw_ite_t c74 hw
            exact (hj102 al59 hw) H locs ls hP hD hS (lv_sub hl [0, 1, 2, 3] rfl)
          · have hw := zw_ite_f c74 hw
            refine lv_aload_n hx hb d_Wa_press_77 rfl (lv_at hl 0 rfl) ?_
            refine va_get (D := (dC, dI)) (ci := 6) (v := .ref (a 42)) (C := R_Wa) (T := T_Wa) (N := 11) hx hb ht in_Wa hown hK hP 40 rfl rfl 4 (by decide) (ht _ kw_181) (fun _ h9 => h9) rfl d_Wa_press_78 ?_
            refine lv_iload hx hb d_Wa_press_81 (lv_at hl 3 rfl) ?_
            refine lv_dup2_11 hx hb d_Wa_press_83 rfl rfl ?_
            obtain ⟨h84, hw⟩ := hw
            refine va_lald (f := al59 42) hx hb hK hP 42 1 rfl rfl h84 d_Wa_press_84 ?_
            refine lv_iload_n hx hb d_Wa_press_85 rfl (lv_at hl 2 rfl) ?_
            refine lv_aload_n hx hb d_Wa_press_86 rfl (lv_at hl 0 rfl) ?_
            refine va_get (D := (dC, dI)) (ci := 6) (v := .ref (a 19)) (C := R_Wa) (T := T_Wa) (N := 11) hx hb ht in_Wa hown hK hP 40 rfl rfl 0 (by decide) (ht _ kw_176) (fun _ h9 => h9) rfl d_Wa_press_87 ?_
            refine va_get (D := (dC, dI)) (ci := 2) (v := .ref (a 31)) (C := R_Gi) (T := T_Gi) (N := 7) hx hb ht in_Gi hown hK hP 19 rfl rfl 4 (by decide) (ht _ kw_148) (fun _ h9 => h9) rfl d_Wa_press_90 ?_
            refine lv_iload hx hb d_Wa_press_93 (lv_at hl 3 rfl) ?_
            obtain ⟨h95, hw⟩ := hw
            refine zw_aald (b := a (32 + x59_4.toNatClampNeg)) hx hb hK hP 31 2 rfl rfl h95 (if_pos (zw_lt h95)) d_Wa_press_95 ?_
            refine lv_iload_n hx hb d_Wa_press_96 rfl (lv_at hl 1 rfl) ?_
            obtain ⟨h97, hw⟩ := hw
            refine va_iald (f := ai (32 + x59_4.toNatClampNeg)) hx hb hK hP (32 + x59_4.toNatClampNeg) 0 (cw_row31 _ _ _ _ _ _ _ _ _ _ (zw_lt h95)) rfl h97 d_Wa_press_97 ?_
            refine lv_imul hx hb d_Wa_press_98 ?_
            refine lv_i2l hx hb d_Wa_press_99 rfl ?_
            refine lv_ladd hx hb d_Wa_press_100 ?_
            obtain ⟨h101, hw⟩ := hw
            refine va_last (f := al59 42) hx hb hK hP hD hS 42 1 rfl rfl h101 d_Wa_press_101 (fun H locs hP hD hS => ?_)
            have hP := cwpal_42 hP
            have hD := cwdal_42 hD
            obtain ⟨al_101, eal_101⟩ : ∃ z, z = va_up al59 42 (vp_updL (al59 42) x59_4.toNatClampNeg ((al59 42 x59_4.toNatClampNeg) + (p2 * (ai (32 + x59_4.toNatClampNeg) p1.toNatClampNeg)).toInt64)) := ⟨_, rfl⟩
            rw [← eal_101] at hP hD
            have hw := zw_nm_x eal_101 hw
            exact (hj102 al_101 hw) H locs ls hP hD hS (lv_sub hl [0, 1, 2, 3] rfl)
    · have hw := zw_ite_f c12 hw
      refine lv_aload_n hx hb d_Wa_press_15 rfl (lv_at hl 0 rfl) ?_
      refine lv_iload_n hx hb d_Wa_press_16 rfl (lv_at hl 1 rfl) ?_
      refine lv_iload hx hb d_Wa_press_17 (lv_at hl 4 rfl) ?_
      refine lv_iload_n hx hb d_Wa_press_19 rfl (lv_at hl 3 rfl) ?_
      refine lv_i2l hx hb d_Wa_press_20 rfl ?_
      refine lv_ldc2 (v := (1000 : Int64)) hx hb hown (hts (.constantLong R_Wa 130 (1000 : Int64)) (by decide +kernel)) d_Wa_press_21 ?_
      refine lv_lmul hx hb d_Wa_press_24 ?_
      refine lv_aload_n hx hb d_Wa_press_25 rfl (lv_at hl 0 rfl) ?_
      refine va_get (D := (dC, dI)) (ci := 6) (v := .ref (a 19)) (C := R_Wa) (T := T_Wa) (N := 11) hx hb ht in_Wa hown hK hP 40 rfl rfl 0 (by decide) (ht _ kw_176) (fun _ h9 => h9) rfl d_Wa_press_26 ?_
      refine va_get (D := (dC, dI)) (ci := 2) (v := .ref (a 22)) (C := R_Gi) (T := T_Gi) (N := 7) hx hb ht in_Gi hown hK hP 19 rfl rfl 3 (by decide) (ht _ kw_145) (fun _ h9 => h9) rfl d_Wa_press_29 ?_
      refine lv_aload_n hx hb d_Wa_press_32 rfl (lv_at hl 0 rfl) ?_
      refine va_get (D := (dC, dI)) (ci := 6) (v := .int (fi 10)) (C := R_Wa) (T := T_Wa) (N := 11) hx hb ht in_Wa hown hK hP 40 rfl rfl 10 (by decide) (ht _ kw_188) (fun _ h9 => h9) rfl d_Wa_press_33 ?_
      obtain ⟨h36, hw⟩ := hw
      refine zw_aald (b := a (23 + (fi 10).toNatClampNeg)) hx hb hK hP 22 2 rfl rfl h36 (if_pos (zw_lt h36)) d_Wa_press_36 ?_
      refine lv_iload hx hb d_Wa_press_37 (lv_at hl 4 rfl) ?_
      refine lv_bipush (v := (6 : Int32)) hx hb d_Wa_press_39 (by decide) ?_
      refine lv_imul hx hb d_Wa_press_41 ?_
      refine lv_iload_n hx hb d_Wa_press_42 rfl (lv_at hl 2 rfl) ?_
      refine lv_iadd hx hb d_Wa_press_43 ?_
      obtain ⟨h44, hw⟩ := hw
      refine va_iald (f := ai (23 + (fi 10).toNatClampNeg)) hx hb hK hP (23 + (fi 10).toNatClampNeg) 0 (cw_row22 _ _ _ _ _ _ _ _ _ _ (zw_lt h36)) rfl h44 d_Wa_press_44 ?_
      refine lv_i2l hx hb d_Wa_press_45 rfl ?_
      refine lv_lmul hx hb d_Wa_press_46 ?_
      refine zw_cv (va_runV (As := [.int p0, .int x3_4, .long ((p2.toInt64 * (1000 : Int64)) * (ai (23 + (fi 10).toNatClampNeg) ((x3_4 * (6 : Int32)) + p1).toNatClampNeg).toInt64)]) (rest := []) ⟨hx, hb, hml, hown, hts⟩ (c_Wa_lift l dC dI cI cJ cG cZ a H.size fi fl ai al3 p0 x3_4 ((p2.toInt64 * (1000 : Int64)) * (ai (23 + (fi 10).toNatClampNeg) ((x3_4 * (6 : Int32)) + p1).toNatClampNeg).toInt64) _ hw) (cwV 3 hts (zw_goodV kw_459 kw_461 kw_s6 kw_7 kw_462) rfl rfl rfl hd_Wa_lift ⟨Nat.le_of_ble_eq_true rfl, Nat.le_of_ble_eq_true rfl⟩) (zw_preVw (ci := 6) (q0 := 40) hK hN hP hD rfl rfl) rfl rfl hl.1 rfl (lv_room (Nat.le_of_ble_eq_true rfl)) d_Wa_press_47 ⟨Nat.le_of_ble_eq_true rfl, Nat.le_of_ble_eq_true rfl⟩) hD hS hA (fun fi_47 fl_47 ai_47 al_47 H locs hw hP hD hS => ?_)
      obtain ⟨rfl, rfl, rfl, hw⟩ := hw
      obtain ⟨v50, ev50⟩ : ∃ y : Int32, y = x3_4 + (1 : Int32) := ⟨_, rfl⟩
      refine lv_iinc (v := v50) (lv' := [(4, .int v50), (0, .ref (a 40)), (1, .int p0), (2, .int p1), (3, .int p2)]) hx hb d_Wa_press_50 hl (k := 4) rfl (by rw [ev50]; rfl) (by decide) rfl (fun ls hl => ?_)
      have hw := zw_nm_x ev50 hw
      refine lv_goto (tgt := 3) hx hb d_Wa_press_53 (by decide) ?_
      exact (ih3 v50 al_47 hw) H locs ls hP hD hS (lv_sub hl [1, 2, 3, 4, 0] rfl)
  rw [hH, hlo] at key
  exact key
def Wa_letGo_w (fi : Nat → Int32) (fl : Nat → Int64) (ai : Nat → Nat → Int32) (al : Nat → Nat → Int64) (p0 : Int32) (p1 : Int32) (K : (Nat → Int32) → (Nat → Nat → Int64) → Prop) : Prop :=
  zw_nm (0 : Int32) (fun (v1 : Int32) =>
  zw_lp2 (fun L2 (x2_3 : Int32) (al2 : Nat → Nat → Int64) =>
  if (fi 7) ≤ x2_3 then (
    vp_in p1 3 ∧ (zw_nm (va_up al2 42 (vp_updL (al2 42) p1.toNatClampNeg (0 : Int64))) (fun (al_50 : Nat → Nat → Int64) =>
    zw_nm (va_up fi 10 ((fi 10) &&& (((1 : Int32) <<< (p1 &&& 31)) ^^^ (-1 : Int32)))) (fun (fi_62 : Nat → Int32) =>
    K fi_62 al_50))))
  else (
    vp_in p1 3 ∧ (
    vp_in p1 3 ∧ (
    vp_in x2_3 6 ∧ (
    Wa_lift_w fi fl ai al2 p0 x2_3 ((al2 42 p1.toNatClampNeg) * (ai (36 + p1.toNatClampNeg) x2_3.toNatClampNeg).toInt64) (fun (al_35 : Nat → Nat → Int64) =>
    zw_nm (x2_3 + (1 : Int32)) (fun (v38 : Int32) =>
    L2 v38 al_35))))))) v1 al)
theorem d_Wa_letGo_0 : decode b_Wa_letGo 0 = .ok (.iconst 0, 1) := by decide +kernel
theorem d_Wa_letGo_1 : decode b_Wa_letGo 1 = .ok (.istore_n 3, 1) := by decide +kernel
theorem d_Wa_letGo_2 : decode b_Wa_letGo 2 = .ok (.iload_n 3, 1) := by decide +kernel
theorem d_Wa_letGo_3 : decode b_Wa_letGo 3 = .ok (.aload_n 0, 1) := by decide +kernel
theorem d_Wa_letGo_4 : decode b_Wa_letGo 4 = .ok (.getfield 30, 3) := by decide +kernel
theorem d_Wa_letGo_7 : decode b_Wa_letGo 7 = .ok (.getfield 102, 3) := by decide +kernel
theorem d_Wa_letGo_10 : decode b_Wa_letGo 10 = .ok (.if_icmp .ge (34), 3) := by decide +kernel
theorem d_Wa_letGo_13 : decode b_Wa_letGo 13 = .ok (.aload_n 0, 1) := by decide +kernel
theorem d_Wa_letGo_14 : decode b_Wa_letGo 14 = .ok (.iload_n 1, 1) := by decide +kernel
theorem d_Wa_letGo_15 : decode b_Wa_letGo 15 = .ok (.iload_n 3, 1) := by decide +kernel
theorem d_Wa_letGo_16 : decode b_Wa_letGo 16 = .ok (.aload_n 0, 1) := by decide +kernel
theorem d_Wa_letGo_17 : decode b_Wa_letGo 17 = .ok (.getfield 15, 3) := by decide +kernel
theorem d_Wa_letGo_20 : decode b_Wa_letGo 20 = .ok (.iload_n 2, 1) := by decide +kernel
theorem d_Wa_letGo_21 : decode b_Wa_letGo 21 = .ok (.laload, 1) := by decide +kernel
theorem d_Wa_letGo_22 : decode b_Wa_letGo 22 = .ok (.aload_n 0, 1) := by decide +kernel
theorem d_Wa_letGo_23 : decode b_Wa_letGo 23 = .ok (.getfield 30, 3) := by decide +kernel
theorem d_Wa_letGo_26 : decode b_Wa_letGo 26 = .ok (.getfield 142, 3) := by decide +kernel
theorem d_Wa_letGo_29 : decode b_Wa_letGo 29 = .ok (.iload_n 2, 1) := by decide +kernel
theorem d_Wa_letGo_30 : decode b_Wa_letGo 30 = .ok (.aaload, 1) := by decide +kernel
theorem d_Wa_letGo_31 : decode b_Wa_letGo 31 = .ok (.iload_n 3, 1) := by decide +kernel
theorem d_Wa_letGo_32 : decode b_Wa_letGo 32 = .ok (.iaload, 1) := by decide +kernel
theorem d_Wa_letGo_33 : decode b_Wa_letGo 33 = .ok (.i2l, 1) := by decide +kernel
theorem d_Wa_letGo_34 : decode b_Wa_letGo 34 = .ok (.lmul, 1) := by decide +kernel
theorem d_Wa_letGo_35 : decode b_Wa_letGo 35 = .ok (.invokevirtual 135, 3) := by decide +kernel
theorem d_Wa_letGo_38 : decode b_Wa_letGo 38 = .ok (.iinc 3 (1), 3) := by decide +kernel
theorem d_Wa_letGo_41 : decode b_Wa_letGo 41 = .ok (.goto (-39), 3) := by decide +kernel
theorem d_Wa_letGo_44 : decode b_Wa_letGo 44 = .ok (.aload_n 0, 1) := by decide +kernel
theorem d_Wa_letGo_45 : decode b_Wa_letGo 45 = .ok (.getfield 15, 3) := by decide +kernel
theorem d_Wa_letGo_48 : decode b_Wa_letGo 48 = .ok (.iload_n 2, 1) := by decide +kernel
theorem d_Wa_letGo_49 : decode b_Wa_letGo 49 = .ok (.lconst 0, 1) := by decide +kernel
theorem d_Wa_letGo_50 : decode b_Wa_letGo 50 = .ok (.lastore, 1) := by decide +kernel
theorem d_Wa_letGo_51 : decode b_Wa_letGo 51 = .ok (.aload_n 0, 1) := by decide +kernel
theorem d_Wa_letGo_52 : decode b_Wa_letGo 52 = .ok (.dup, 1) := by decide +kernel
theorem d_Wa_letGo_53 : decode b_Wa_letGo 53 = .ok (.getfield 95, 3) := by decide +kernel
theorem d_Wa_letGo_56 : decode b_Wa_letGo 56 = .ok (.iconst 1, 1) := by decide +kernel
theorem d_Wa_letGo_57 : decode b_Wa_letGo 57 = .ok (.iload_n 2, 1) := by decide +kernel
theorem d_Wa_letGo_58 : decode b_Wa_letGo 58 = .ok (.ishl, 1) := by decide +kernel
theorem d_Wa_letGo_59 : decode b_Wa_letGo 59 = .ok (.iconst (-1), 1) := by decide +kernel
theorem d_Wa_letGo_60 : decode b_Wa_letGo 60 = .ok (.ixor, 1) := by decide +kernel
theorem d_Wa_letGo_61 : decode b_Wa_letGo 61 = .ok (.iand, 1) := by decide +kernel
theorem d_Wa_letGo_62 : decode b_Wa_letGo 62 = .ok (.putfield 95, 3) := by decide +kernel
theorem d_Wa_letGo_65 : decode b_Wa_letGo 65 = .ok (.return_, 1) := by decide +kernel
set_option maxHeartbeats 4000000 in
set_option maxRecDepth 100000 in
theorem c_Wa_letGo (l : Launch) (dC : Nat → ClassId) (dI : Nat → Nat → Nat) (cI cJ cG cZ : ClassId) (a : Nat → Nat) (sz : Nat) (fi : Nat → Int32) (fl : Nat → Int64) (ai : Nat → Nat → Int32) (al : Nat → Nat → Int64) (p0 : Int32) (p1 : Int32) (K : (Nat → Int32) → (Nat → Nat → Int64) → Prop) (hw : Wa_letGo_w fi fl ai al p0 p1 K) : Met l y_Wa_letGo ws_Wa_letGo ({ frames := 2, cells := 0, slots := 0, locals := 45 }) (va_Pc [.ref (a 40), .int p0, .int p1] (zw_Bw (dC, dI) vwCl [(cI, .int), (cJ, .long), (cG, .array .int), (cZ, .boolean)] (cw cI cJ cG cZ a fi fl ai al) sz)) (va_Qv (fun (u : zw_Z) => (zw_k_fi_alv fl ai K) u.1 u.2.1 u.2.2.1 u.2.2.2) (fun u t => zw_E (dC, dI) vwCl [(cI, .int), (cJ, .long), (cG, .array .int), (cZ, .boolean)] (va_A (cw cI cJ cG cZ a fi fl ai al) sz) (cw cI cJ cG cZ a u.1 u.2.1 u.2.2.1 u.2.2.2) t) (va_A (cw cI cJ cG cZ a fi fl ai al) sz)) 0 0 (va_A (cw cI cJ cG cZ a fi fl ai al) sz) := by
  refine Met.ofW (cc := b_Wa_letGo) (maxL := 4) (ret := (Option.none : Option FieldType)) (by decide) rfl ?_
  intro p e s m args below meth c s₁ B hml hv
  obtain ⟨rfl, hsz, hP, hK, hD0, hN⟩ := hv
  have hx := B.exec
  have hb := B.bytes
  have hr := B.returns
  have hts := atoms_spec (ws := ws_Wa_letGo) B.pre
  have ht : ∀ w ∈ zw_tbl, w.before _ s = true := fun w h => hts w (List.mem_cons_of_mem _ h)
  have hown : s.vm.findClass R_Wa = some m.cls := findClass_of_methodNamed B.named
  have hlocks := B.notSynchronized
  subst hsz
  have hD := hD0.self (sz := s.heap.size)
  generalize hAe : va_A (cw cI cJ cG cZ a fi fl ai al) s.heap.size = A at hD ⊢
  have hA : ∀ q : Nat, s.heap.size ≤ q → A q := fun q h => by rw [← hAe]; exact Or.inr h
  have hS : va_S A s.heap s.heap [] := va_S.rf
  have hl := lv_entry ([.ref (a 40), .int p0, .int p1] : List Value) (n := 4) (Nat.le_of_ble_eq_true rfl)
  rw [lg_entry_eq]
  generalize (lg_sl ([.ref (a 40), .int p0, .int p1] : List Value) ++ List.replicate (4 - (lg_sl ([.ref (a 40), .int p0, .int p1] : List Value)).length) Slot.unset).toArray = ls at hl ⊢
  have hl : lv_has ls 4 [(0, .ref (a 40)), (1, .int p0), (2, .int p1)] := hl
  unfold Wa_letGo_w at hw
  obtain ⟨H, hH⟩ : ∃ H, H = s.heap := ⟨_, rfl⟩
  obtain ⟨locs, hlo⟩ : ∃ q : List Loc, q = [] := ⟨_, rfl⟩
  have hP : va_P (dC, dI) vwCl (cw cI cJ cG cZ a fi fl ai al) H := by rw [hH]; exact hP
  have hS : va_S A s.heap H locs := by rw [hH, hlo]; exact hS
  have key : W p l e (headSpec ws_Wa_letGo ({ frames := 2, cells := 0, slots := 0, locals := 45 })).room s m ([.ref (a 40), .int p0, .int p1] : List Value).toArray below meth c H locs 0 0 (MQ below (va_Qv (fun (u : zw_Z) => (zw_k_fi_alv fl ai K) u.1 u.2.1 u.2.2.1 u.2.2.2) (fun u t => zw_E (dC, dI) vwCl [(cI, .int), (cJ, .long), (cG, .array .int), (cZ, .boolean)] A (cw cI cJ cG cZ a u.1 u.2.1 u.2.2.1 u.2.2.2) t) A) ([.ref (a 40), .int p0, .int p1] : List Value).toArray s 0 0 A) (F0 m 0 ls []) := by
    refine lv_iconst (v := (0 : Int32)) hx hb d_Wa_letGo_0 (by decide) ?_
    refine lv_topi (fun v1 ev1 => ?_)
    have hw := zw_nm_x ev1 hw
    refine lv_istore_n (lv' := [(3, .int v1), (0, .ref (a 40)), (1, .int p0), (2, .int p1)]) hx hb d_Wa_letGo_1 rfl hl (by decide) rfl (fun ls hl => ?_)
    refine (zw_lp2_i (P := fun (x2_3 : Int32) (al2 : Nat → Nat → Int64) => ∀ (H : Heap) (locs : List Loc) (ls : Array Slot), va_P (dC, dI) vwCl (cw cI cJ cG cZ a fi fl ai al2) H → va_D A (cw cI cJ cG cZ a fi fl ai al2) → va_S A s.heap H locs → lv_has ls 4 [(0, .ref (a 40)), (1, .int p0), (2, .int p1), (3, .int x2_3)] → W p l e (headSpec ws_Wa_letGo ({ frames := 2, cells := 0, slots := 0, locals := 45 })).room s m ([.ref (a 40), .int p0, .int p1] : List Value).toArray below meth c H locs 0 0 (MQ below (va_Qv (fun (u : zw_Z) => (zw_k_fi_alv fl ai K) u.1 u.2.1 u.2.2.1 u.2.2.2) (fun u t => zw_E (dC, dI) vwCl [(cI, .int), (cJ, .long), (cG, .array .int), (cZ, .boolean)] A (cw cI cJ cG cZ a u.1 u.2.1 u.2.2.1 u.2.2.2) t) A) ([.ref (a 40), .int p0, .int p1] : List Value).toArray s 0 0 A) (F0 m 2 ls [])) hw (fun L2 x2_3 al2 ih2 hw H locs ls hP hD hS hl => ?_)) H locs ls hP hD hS (lv_sub hl [1, 2, 3, 0] rfl)
    refine lv_iload_n hx hb d_Wa_letGo_2 rfl (lv_at hl 3 rfl) ?_
    refine lv_aload_n hx hb d_Wa_letGo_3 rfl (lv_at hl 0 rfl) ?_
    refine va_get (D := (dC, dI)) (ci := 6) (v := .ref (a 19)) (C := R_Wa) (T := T_Wa) (N := 11) hx hb ht in_Wa hown hK hP 40 rfl rfl 0 (by decide) (ht _ kw_176) (fun _ h9 => h9) rfl d_Wa_letGo_4 ?_
    refine va_get (D := (dC, dI)) (ci := 2) (v := .int (fi 7)) (C := R_Gi) (T := T_Gi) (N := 7) hx hb ht in_Gi hown hK hP 19 rfl rfl 0 (by decide) (ht _ kw_136) (fun _ h9 => h9) rfl d_Wa_letGo_7 ?_
    refine lv_icmp_ge (tgt := 44) hx hb d_Wa_letGo_10 (by decide) (fun c10 => ?_) (fun c10 => ?_)
    · have hw := zw_ite_t c10 hw
      refine lv_aload_n hx hb d_Wa_letGo_44 rfl (lv_at hl 0 rfl) ?_
      refine va_get (D := (dC, dI)) (ci := 6) (v := .ref (a 42)) (C := R_Wa) (T := T_Wa) (N := 11) hx hb ht in_Wa hown hK hP 40 rfl rfl 4 (by decide) (ht _ kw_181) (fun _ h9 => h9) rfl d_Wa_letGo_45 ?_
      refine lv_iload_n hx hb d_Wa_letGo_48 rfl (lv_at hl 2 rfl) ?_
      refine lv_lconst (v := (0 : Int64)) hx hb d_Wa_letGo_49 (by decide) ?_
      obtain ⟨h50, hw⟩ := hw
      refine va_last (f := al2 42) hx hb hK hP hD hS 42 1 rfl rfl h50 d_Wa_letGo_50 (fun H locs hP hD hS => ?_)
      have hP := cwpal_42 hP
      have hD := cwdal_42 hD
      obtain ⟨al_50, eal_50⟩ : ∃ z, z = va_up al2 42 (vp_updL (al2 42) p1.toNatClampNeg (0 : Int64)) := ⟨_, rfl⟩
      rw [← eal_50] at hP hD
      have hw := zw_nm_x eal_50 hw
      refine lv_aload_n hx hb d_Wa_letGo_51 rfl (lv_at hl 0 rfl) ?_
      refine lv_dup hx hb d_Wa_letGo_52 rfl ?_
      refine va_get (D := (dC, dI)) (ci := 6) (v := .int (fi 10)) (C := R_Wa) (T := T_Wa) (N := 11) hx hb ht in_Wa hown hK hP 40 rfl rfl 10 (by decide) (ht _ kw_188) (fun _ h9 => h9) rfl d_Wa_letGo_53 ?_
      refine lv_iconst (v := (1 : Int32)) hx hb d_Wa_letGo_56 (by decide) ?_
      refine lv_iload_n hx hb d_Wa_letGo_57 rfl (lv_at hl 2 rfl) ?_
      refine lv_ishl hx hb d_Wa_letGo_58 ?_
      refine lv_iconst (v := (-1 : Int32)) hx hb d_Wa_letGo_59 (by decide) ?_
      refine lv_ixor hx hb d_Wa_letGo_60 ?_
      refine lv_iand hx hb d_Wa_letGo_61 ?_
      refine va_put (D := (dC, dI)) (ci := 6) (v := .int ((fi 10) &&& (((1 : Int32) <<< (p1 &&& 31)) ^^^ (-1 : Int32)))) (ty := .int) (C := R_Wa) (T := T_Wa) (N := 11) hx hb ht in_Wa t_Wa t_Wa_ok n_Wa hown hK hP hD hS 40 rfl rfl 10 (by decide) (ht _ kw_188) (fun _ h9 => h9) rfl (by decide +kernel) rfl rfl (Nat.le_of_ble_eq_true rfl) d_Wa_letGo_62 (fun H locs hP hD hS => ?_)
      have hP := cwpfi_10 hP
      have hD := cwdfi_10 hD
      obtain ⟨fi_62, efi_62⟩ : ∃ z, z = va_up fi 10 ((fi 10) &&& (((1 : Int32) <<< (p1 &&& 31)) ^^^ (-1 : Int32))) := ⟨_, rfl⟩
      rw [← efi_62] at hP hD
      have hw := zw_nm_x efi_62 hw
      exact W.vret hx hb hr (fun t ht hW => ⟨⟨(fi_62, fl, ai, al_50), rfl, ⟨rfl, rfl, hw⟩, by rw [ht]; exact hP, va_K.moved hW.alike hK, hD⟩, hS.F ht⟩) hS.2.2 d_Wa_letGo_65
    · have hw := zw_ite_f c10 hw
      refine lv_aload_n hx hb d_Wa_letGo_13 rfl (lv_at hl 0 rfl) ?_
      refine lv_iload_n hx hb d_Wa_letGo_14 rfl (lv_at hl 1 rfl) ?_
      refine lv_iload_n hx hb d_Wa_letGo_15 rfl (lv_at hl 3 rfl) ?_
      refine lv_aload_n hx hb d_Wa_letGo_16 rfl (lv_at hl 0 rfl) ?_
      refine va_get (D := (dC, dI)) (ci := 6) (v := .ref (a 42)) (C := R_Wa) (T := T_Wa) (N := 11) hx hb ht in_Wa hown hK hP 40 rfl rfl 4 (by decide) (ht _ kw_181) (fun _ h9 => h9) rfl d_Wa_letGo_17 ?_
      refine lv_iload_n hx hb d_Wa_letGo_20 rfl (lv_at hl 2 rfl) ?_
      obtain ⟨h21, hw⟩ := hw
      refine va_lald (f := al2 42) hx hb hK hP 42 1 rfl rfl h21 d_Wa_letGo_21 ?_
      refine lv_aload_n hx hb d_Wa_letGo_22 rfl (lv_at hl 0 rfl) ?_
      refine va_get (D := (dC, dI)) (ci := 6) (v := .ref (a 19)) (C := R_Wa) (T := T_Wa) (N := 11) hx hb ht in_Wa hown hK hP 40 rfl rfl 0 (by decide) (ht _ kw_176) (fun _ h9 => h9) rfl d_Wa_letGo_23 ?_
      refine va_get (D := (dC, dI)) (ci := 2) (v := .ref (a 35)) (C := R_Gi) (T := T_Gi) (N := 7) hx hb ht in_Gi hown hK hP 19 rfl rfl 5 (by decide) (ht _ kw_151) (fun _ h9 => h9) rfl d_Wa_letGo_26 ?_
      refine lv_iload_n hx hb d_Wa_letGo_29 rfl (lv_at hl 2 rfl) ?_
      obtain ⟨h30, hw⟩ := hw
      refine zw_aald (b := a (36 + p1.toNatClampNeg)) hx hb hK hP 35 2 rfl rfl h30 (if_pos (zw_lt h30)) d_Wa_letGo_30 ?_
      refine lv_iload_n hx hb d_Wa_letGo_31 rfl (lv_at hl 3 rfl) ?_
      obtain ⟨h32, hw⟩ := hw
      refine va_iald (f := ai (36 + p1.toNatClampNeg)) hx hb hK hP (36 + p1.toNatClampNeg) 0 (cw_row35 _ _ _ _ _ _ _ _ _ _ (zw_lt h30)) rfl h32 d_Wa_letGo_32 ?_
      refine lv_i2l hx hb d_Wa_letGo_33 rfl ?_
      refine lv_lmul hx hb d_Wa_letGo_34 ?_
      refine zw_cv (va_runV (As := [.int p0, .int x2_3, .long ((al2 42 p1.toNatClampNeg) * (ai (36 + p1.toNatClampNeg) x2_3.toNatClampNeg).toInt64)]) (rest := []) ⟨hx, hb, hml, hown, hts⟩ (c_Wa_lift l dC dI cI cJ cG cZ a H.size fi fl ai al2 p0 x2_3 ((al2 42 p1.toNatClampNeg) * (ai (36 + p1.toNatClampNeg) x2_3.toNatClampNeg).toInt64) _ hw) (cwV 3 hts (zw_goodV kw_459 kw_461 kw_s6 kw_7 kw_462) rfl rfl rfl hd_Wa_lift ⟨Nat.le_of_ble_eq_true rfl, Nat.le_of_ble_eq_true rfl⟩) (zw_preVw (ci := 6) (q0 := 40) hK hN hP hD rfl rfl) rfl rfl hl.1 rfl (lv_room (Nat.le_of_ble_eq_true rfl)) d_Wa_letGo_35 ⟨Nat.le_of_ble_eq_true rfl, Nat.le_of_ble_eq_true rfl⟩) hD hS hA (fun fi_35 fl_35 ai_35 al_35 H locs hw hP hD hS => ?_)
      obtain ⟨rfl, rfl, rfl, hw⟩ := hw
      obtain ⟨v38, ev38⟩ : ∃ y : Int32, y = x2_3 + (1 : Int32) := ⟨_, rfl⟩
      refine lv_iinc (v := v38) (lv' := [(3, .int v38), (0, .ref (a 40)), (1, .int p0), (2, .int p1)]) hx hb d_Wa_letGo_38 hl (k := 3) rfl (by rw [ev38]; rfl) (by decide) rfl (fun ls hl => ?_)
      have hw := zw_nm_x ev38 hw
      refine lv_goto (tgt := 2) hx hb d_Wa_letGo_41 (by decide) ?_
      exact (ih2 v38 al_35 hw) H locs ls hP hD hS (lv_sub hl [1, 2, 3, 0] rfl)
  rw [hH, hlo] at key
  exact key
