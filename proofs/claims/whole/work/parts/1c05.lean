def Wa_go_w (fi : Nat → Int32) (fl : Nat → Int64) (ai : Nat → Nat → Int32) (al : Nat → Nat → Int64) (P0 : Nat) (K : Int32 → (Nat → Int32) → (Nat → Nat → Int32) → (Nat → Nat → Int64) → Prop) : Prop :=
  Wa_begin_w fi fl ai al P0 (fun (fi_2 : Nat → Int32) (ai_2 : Nat → Nat → Int32) (al_2 : Nat → Nat → Int64) =>
  zw_nm (0 : Int32) (fun (v6 : Int32) =>
  zw_nm (0 : Int32) (fun (v8 : Int32) =>
  zw_lp4 (fun L9 (x9_2 : Int32) (x9_3 : Int32) (fi9 : Nat → Int32) (al9 : Nat → Nat → Int64) =>
  if (fi9 3) ≤ x9_3 then (
    K (1 : Int32) fi9 ai_2 al9)
  else (
    vp_in x9_3 40 ∧ (
    if (fi9 8) < (ai_2 9 x9_3.toNatClampNeg) then (
      K (1 : Int32) fi9 ai_2 al9)
    else (
      vp_in x9_3 40 ∧ (
      zw_nm (ai_2 9 x9_3.toNatClampNeg) (fun (v45 : Int32) =>
      vp_in x9_3 40 ∧ (
      zw_nm (ai_2 7 x9_3.toNatClampNeg) (fun (v56 : Int32) =>
      vp_in x9_3 40 ∧ (
      zw_jn3 (fun (x190_2 : Int32) (fi190 : Nat → Int32) (al190 : Nat → Nat → Int64) =>
      zw_nm (x9_3 + (1 : Int32)) (fun (v190 : Int32) =>
      L9 x190_2 v190 fi190 al190)) (fun J190 =>
      if (ai_2 6 x9_3.toNatClampNeg) = (0 : Int32) then (
        vp_in x9_2 6 ∧ (
        zw_nm (va_up fi9 9 ((fi9 9) ||| ((1 : Int32) <<< ((ai_2 P0 x9_2.toNatClampNeg) &&& 31)))) (fun (fi_103 : Nat → Int32) =>
        vp_in x9_2 6 ∧ (
        vp_in x9_2 6 ∧ (
        vp_in (ai_2 P0 x9_2.toNatClampNeg) 6 ∧ (
        Wa_press_w fi_103 fl ai_2 al9 v45 (ai_2 P0 x9_2.toNatClampNeg) (ai_2 20 (ai_2 P0 x9_2.toNatClampNeg).toNatClampNeg) (fun (al_123 : Nat → Nat → Int64) =>
        zw_nm (x9_2 + (1 : Int32)) (fun (v126 : Int32) =>
        J190 v126 fi_103 al_123))))))))
      else (if (ai_2 6 x9_3.toNatClampNeg) = (1 : Int32) then (
        SS_hasBit_w (fi9 9) v56 (fun (r138 : Int32) =>
        if r138 = 0 then (
          K (0 : Int32) fi9 ai_2 al9)
        else (
          vp_in x9_3 40 ∧ (
          Wa_press_w fi9 fl ai_2 al9 v45 v56 (ai_2 8 x9_3.toNatClampNeg) (fun (al_160 : Nat → Nat → Int64) =>
          J190 x9_2 fi9 al_160)))))
      else (if (ai_2 6 x9_3.toNatClampNeg) = (2 : Int32) then (
        zw_nm (va_up fi9 10 ((fi9 10) ||| ((1 : Int32) <<< (v56 &&& 31)))) (fun (fi_176 : Nat → Int32) =>
        J190 x9_2 fi_176 al9))
      else (
        Wa_letGo_w fi9 fl ai_2 al9 v45 v56 (fun (fi_187 : Nat → Int32) (al_187 : Nat → Nat → Int64) =>
        J190 x9_2 fi_187 al_187)))))))))))))) v6 v8 fi_2 al_2)))
theorem d_Wa_go_0 : decode b_Wa_go 0 = .ok (.aload_n 0, 1) := by decide +kernel
theorem d_Wa_go_1 : decode b_Wa_go 1 = .ok (.aload_n 1, 1) := by decide +kernel
theorem d_Wa_go_2 : decode b_Wa_go 2 = .ok (.invokevirtual 60, 3) := by decide +kernel
theorem d_Wa_go_5 : decode b_Wa_go 5 = .ok (.iconst 0, 1) := by decide +kernel
theorem d_Wa_go_6 : decode b_Wa_go 6 = .ok (.istore_n 2, 1) := by decide +kernel
theorem d_Wa_go_7 : decode b_Wa_go 7 = .ok (.iconst 0, 1) := by decide +kernel
theorem d_Wa_go_8 : decode b_Wa_go 8 = .ok (.istore_n 3, 1) := by decide +kernel
theorem d_Wa_go_9 : decode b_Wa_go 9 = .ok (.iload_n 3, 1) := by decide +kernel
theorem d_Wa_go_10 : decode b_Wa_go 10 = .ok (.aload_n 0, 1) := by decide +kernel
theorem d_Wa_go_11 : decode b_Wa_go 11 = .ok (.getfield 38, 3) := by decide +kernel
theorem d_Wa_go_14 : decode b_Wa_go 14 = .ok (.getfield 64, 3) := by decide +kernel
theorem d_Wa_go_17 : decode b_Wa_go 17 = .ok (.if_icmp .ge (179), 3) := by decide +kernel
theorem d_Wa_go_20 : decode b_Wa_go 20 = .ok (.aload_n 0, 1) := by decide +kernel
theorem d_Wa_go_21 : decode b_Wa_go 21 = .ok (.getfield 38, 3) := by decide +kernel
theorem d_Wa_go_24 : decode b_Wa_go 24 = .ok (.getfield 67, 3) := by decide +kernel
theorem d_Wa_go_27 : decode b_Wa_go 27 = .ok (.iload_n 3, 1) := by decide +kernel
theorem d_Wa_go_28 : decode b_Wa_go 28 = .ok (.iaload, 1) := by decide +kernel
theorem d_Wa_go_29 : decode b_Wa_go 29 = .ok (.aload_n 0, 1) := by decide +kernel
theorem d_Wa_go_30 : decode b_Wa_go 30 = .ok (.getfield 42, 3) := by decide +kernel
theorem d_Wa_go_33 : decode b_Wa_go 33 = .ok (.if_icmp .gt (163), 3) := by decide +kernel
theorem d_Wa_go_36 : decode b_Wa_go 36 = .ok (.aload_n 0, 1) := by decide +kernel
theorem d_Wa_go_37 : decode b_Wa_go 37 = .ok (.getfield 38, 3) := by decide +kernel
theorem d_Wa_go_40 : decode b_Wa_go 40 = .ok (.getfield 67, 3) := by decide +kernel
theorem d_Wa_go_43 : decode b_Wa_go 43 = .ok (.iload_n 3, 1) := by decide +kernel
theorem d_Wa_go_44 : decode b_Wa_go 44 = .ok (.iaload, 1) := by decide +kernel
theorem d_Wa_go_45 : decode b_Wa_go 45 = .ok (.istore 4, 2) := by decide +kernel
theorem d_Wa_go_47 : decode b_Wa_go 47 = .ok (.aload_n 0, 1) := by decide +kernel
theorem d_Wa_go_48 : decode b_Wa_go 48 = .ok (.getfield 38, 3) := by decide +kernel
theorem d_Wa_go_51 : decode b_Wa_go 51 = .ok (.getfield 70, 3) := by decide +kernel
theorem d_Wa_go_54 : decode b_Wa_go 54 = .ok (.iload_n 3, 1) := by decide +kernel
theorem d_Wa_go_55 : decode b_Wa_go 55 = .ok (.iaload, 1) := by decide +kernel
theorem d_Wa_go_56 : decode b_Wa_go 56 = .ok (.istore 5, 2) := by decide +kernel
theorem d_Wa_go_58 : decode b_Wa_go 58 = .ok (.aload_n 0, 1) := by decide +kernel
theorem d_Wa_go_59 : decode b_Wa_go 59 = .ok (.getfield 38, 3) := by decide +kernel
theorem d_Wa_go_62 : decode b_Wa_go 62 = .ok (.getfield 73, 3) := by decide +kernel
theorem d_Wa_go_65 : decode b_Wa_go 65 = .ok (.iload_n 3, 1) := by decide +kernel
theorem d_Wa_go_66 : decode b_Wa_go 66 = .ok (.iaload, 1) := by decide +kernel
theorem d_Wa_go_67 : decode b_Wa_go 67 = .ok (.tableswitch (115) (0) (2) #[25, 65, 99], 25) := by decide +kernel
theorem d_Wa_go_92 : decode b_Wa_go 92 = .ok (.aload_n 0, 1) := by decide +kernel
theorem d_Wa_go_93 : decode b_Wa_go 93 = .ok (.dup, 1) := by decide +kernel
theorem d_Wa_go_94 : decode b_Wa_go 94 = .ok (.getfield 76, 3) := by decide +kernel
theorem d_Wa_go_97 : decode b_Wa_go 97 = .ok (.iconst 1, 1) := by decide +kernel
theorem d_Wa_go_98 : decode b_Wa_go 98 = .ok (.aload_n 1, 1) := by decide +kernel
theorem d_Wa_go_99 : decode b_Wa_go 99 = .ok (.iload_n 2, 1) := by decide +kernel
theorem d_Wa_go_100 : decode b_Wa_go 100 = .ok (.iaload, 1) := by decide +kernel
theorem d_Wa_go_101 : decode b_Wa_go 101 = .ok (.ishl, 1) := by decide +kernel
theorem d_Wa_go_102 : decode b_Wa_go 102 = .ok (.ior, 1) := by decide +kernel
theorem d_Wa_go_103 : decode b_Wa_go 103 = .ok (.putfield 76, 3) := by decide +kernel
theorem d_Wa_go_106 : decode b_Wa_go 106 = .ok (.aload_n 0, 1) := by decide +kernel
theorem d_Wa_go_107 : decode b_Wa_go 107 = .ok (.iload 4, 2) := by decide +kernel
theorem d_Wa_go_109 : decode b_Wa_go 109 = .ok (.aload_n 1, 1) := by decide +kernel
theorem d_Wa_go_110 : decode b_Wa_go 110 = .ok (.iload_n 2, 1) := by decide +kernel
theorem d_Wa_go_111 : decode b_Wa_go 111 = .ok (.iaload, 1) := by decide +kernel
theorem d_Wa_go_112 : decode b_Wa_go 112 = .ok (.aload_n 0, 1) := by decide +kernel
theorem d_Wa_go_113 : decode b_Wa_go 113 = .ok (.getfield 30, 3) := by decide +kernel
theorem d_Wa_go_116 : decode b_Wa_go 116 = .ok (.getfield 79, 3) := by decide +kernel
theorem d_Wa_go_119 : decode b_Wa_go 119 = .ok (.aload_n 1, 1) := by decide +kernel
theorem d_Wa_go_120 : decode b_Wa_go 120 = .ok (.iload_n 2, 1) := by decide +kernel
theorem d_Wa_go_121 : decode b_Wa_go 121 = .ok (.iaload, 1) := by decide +kernel
theorem d_Wa_go_122 : decode b_Wa_go 122 = .ok (.iaload, 1) := by decide +kernel
theorem d_Wa_go_123 : decode b_Wa_go 123 = .ok (.invokevirtual 84, 3) := by decide +kernel
theorem d_Wa_go_126 : decode b_Wa_go 126 = .ok (.iinc 2 (1), 3) := by decide +kernel
theorem d_Wa_go_129 : decode b_Wa_go 129 = .ok (.goto (61), 3) := by decide +kernel
theorem d_Wa_go_132 : decode b_Wa_go 132 = .ok (.aload_n 0, 1) := by decide +kernel
theorem d_Wa_go_133 : decode b_Wa_go 133 = .ok (.getfield 76, 3) := by decide +kernel
theorem d_Wa_go_136 : decode b_Wa_go 136 = .ok (.iload 5, 2) := by decide +kernel
theorem d_Wa_go_138 : decode b_Wa_go 138 = .ok (.invokestatic 88, 3) := by decide +kernel
theorem d_Wa_go_141 : decode b_Wa_go 141 = .ok (.ifCond .ne (5), 3) := by decide +kernel
theorem d_Wa_go_144 : decode b_Wa_go 144 = .ok (.iconst 0, 1) := by decide +kernel
theorem d_Wa_go_145 : decode b_Wa_go 145 = .ok (.ireturn, 1) := by decide +kernel
theorem d_Wa_go_146 : decode b_Wa_go 146 = .ok (.aload_n 0, 1) := by decide +kernel
theorem d_Wa_go_147 : decode b_Wa_go 147 = .ok (.iload 4, 2) := by decide +kernel
theorem d_Wa_go_149 : decode b_Wa_go 149 = .ok (.iload 5, 2) := by decide +kernel
theorem d_Wa_go_151 : decode b_Wa_go 151 = .ok (.aload_n 0, 1) := by decide +kernel
theorem d_Wa_go_152 : decode b_Wa_go 152 = .ok (.getfield 38, 3) := by decide +kernel
theorem d_Wa_go_155 : decode b_Wa_go 155 = .ok (.getfield 92, 3) := by decide +kernel
theorem d_Wa_go_158 : decode b_Wa_go 158 = .ok (.iload_n 3, 1) := by decide +kernel
theorem d_Wa_go_159 : decode b_Wa_go 159 = .ok (.iaload, 1) := by decide +kernel
theorem d_Wa_go_160 : decode b_Wa_go 160 = .ok (.invokevirtual 84, 3) := by decide +kernel
theorem d_Wa_go_163 : decode b_Wa_go 163 = .ok (.goto (27), 3) := by decide +kernel
theorem d_Wa_go_166 : decode b_Wa_go 166 = .ok (.aload_n 0, 1) := by decide +kernel
theorem d_Wa_go_167 : decode b_Wa_go 167 = .ok (.dup, 1) := by decide +kernel
theorem d_Wa_go_168 : decode b_Wa_go 168 = .ok (.getfield 95, 3) := by decide +kernel
theorem d_Wa_go_171 : decode b_Wa_go 171 = .ok (.iconst 1, 1) := by decide +kernel
theorem d_Wa_go_172 : decode b_Wa_go 172 = .ok (.iload 5, 2) := by decide +kernel
theorem d_Wa_go_174 : decode b_Wa_go 174 = .ok (.ishl, 1) := by decide +kernel
theorem d_Wa_go_175 : decode b_Wa_go 175 = .ok (.ior, 1) := by decide +kernel
theorem d_Wa_go_176 : decode b_Wa_go 176 = .ok (.putfield 95, 3) := by decide +kernel
theorem d_Wa_go_179 : decode b_Wa_go 179 = .ok (.goto (11), 3) := by decide +kernel
theorem d_Wa_go_182 : decode b_Wa_go 182 = .ok (.aload_n 0, 1) := by decide +kernel
theorem d_Wa_go_183 : decode b_Wa_go 183 = .ok (.iload 4, 2) := by decide +kernel
theorem d_Wa_go_185 : decode b_Wa_go 185 = .ok (.iload 5, 2) := by decide +kernel
theorem d_Wa_go_187 : decode b_Wa_go 187 = .ok (.invokevirtual 98, 3) := by decide +kernel
theorem d_Wa_go_190 : decode b_Wa_go 190 = .ok (.iinc 3 (1), 3) := by decide +kernel
theorem d_Wa_go_193 : decode b_Wa_go 193 = .ok (.goto (-184), 3) := by decide +kernel
theorem d_Wa_go_196 : decode b_Wa_go 196 = .ok (.iconst 1, 1) := by decide +kernel
theorem d_Wa_go_197 : decode b_Wa_go 197 = .ok (.ireturn, 1) := by decide +kernel
set_option maxHeartbeats 4000000 in
set_option maxRecDepth 100000 in
theorem c_Wa_go (l : Launch) (dC : Nat → ClassId) (dI : Nat → Nat → Nat) (cI cJ cG cZ : ClassId) (a : Nat → Nat) (sz : Nat) (fi : Nat → Int32) (fl : Nat → Int64) (ai : Nat → Nat → Int32) (al : Nat → Nat → Int64) (P0 : Nat) (K : Int32 → (Nat → Int32) → (Nat → Nat → Int32) → (Nat → Nat → Int64) → Prop) (hP0 : ∀ fi fl ai al, (cw cI cJ cG cZ a fi fl ai al)[P0]? = some (a P0, .inl (cI, 6, .inl (ai P0)))) (hw : Wa_go_w fi fl ai al P0 K) : Met l y_Wa_go ws_Wa_go ({ frames := 3, cells := 0, slots := 0, locals := 69 }) (va_Pc [.ref (a 40), .ref (a P0)] (zw_Bw (dC, dI) vwCl [(cI, .int), (cJ, .long), (cG, .array .int), (cZ, .boolean)] (cw cI cJ cG cZ a fi fl ai al) sz)) (va_Qi (fun r (u : zw_Z) => (zw_k_fi_ai_alr fl K) r u.1 u.2.1 u.2.2.1 u.2.2.2) (fun u t => zw_E (dC, dI) vwCl [(cI, .int), (cJ, .long), (cG, .array .int), (cZ, .boolean)] (va_A (cw cI cJ cG cZ a fi fl ai al) sz) (cw cI cJ cG cZ a u.1 u.2.1 u.2.2.1 u.2.2.2) t) (va_A (cw cI cJ cG cZ a fi fl ai al) sz)) 0 0 (va_A (cw cI cJ cG cZ a fi fl ai al) sz) := by
  refine Met.ofW (cc := b_Wa_go) (maxL := 6) (ret := (Option.some FieldType.boolean)) (by decide) rfl ?_
  intro p e s m args below meth c s₁ B hml hv
  obtain ⟨rfl, hsz, hP, hK, hD0, hN⟩ := hv
  have hx := B.exec
  have hb := B.bytes
  have hr := B.returns
  have hts := atoms_spec (ws := ws_Wa_go) B.pre
  have ht : ∀ w ∈ zw_tbl, w.before _ s = true := fun w h => hts w (List.mem_cons_of_mem _ h)
  have hown : s.vm.findClass R_Wa = some m.cls := findClass_of_methodNamed B.named
  have hlocks := B.notSynchronized
  subst hsz
  have hD := hD0.self (sz := s.heap.size)
  generalize hAe : va_A (cw cI cJ cG cZ a fi fl ai al) s.heap.size = A at hD ⊢
  have hA : ∀ q : Nat, s.heap.size ≤ q → A q := fun q h => by rw [← hAe]; exact Or.inr h
  have hS : va_S A s.heap s.heap [] := va_S.rf
  have hl := lv_entry ([.ref (a 40), .ref (a P0)] : List Value) (n := 6) (Nat.le_of_ble_eq_true rfl)
  rw [lg_entry_eq]
  generalize (lg_sl ([.ref (a 40), .ref (a P0)] : List Value) ++ List.replicate (6 - (lg_sl ([.ref (a 40), .ref (a P0)] : List Value)).length) Slot.unset).toArray = ls at hl ⊢
  have hl : lv_has ls 6 [(0, .ref (a 40)), (1, .ref (a P0))] := hl
  unfold Wa_go_w at hw
  obtain ⟨H, hH⟩ : ∃ H, H = s.heap := ⟨_, rfl⟩
  obtain ⟨locs, hlo⟩ : ∃ q : List Loc, q = [] := ⟨_, rfl⟩
  have hP : va_P (dC, dI) vwCl (cw cI cJ cG cZ a fi fl ai al) H := by rw [hH]; exact hP
  have hS : va_S A s.heap H locs := by rw [hH, hlo]; exact hS
  have key : W p l e (headSpec ws_Wa_go ({ frames := 3, cells := 0, slots := 0, locals := 69 })).room s m ([.ref (a 40), .ref (a P0)] : List Value).toArray below meth c H locs 0 0 (MQ below (va_Qi (fun r (u : zw_Z) => (zw_k_fi_ai_alr fl K) r u.1 u.2.1 u.2.2.1 u.2.2.2) (fun u t => zw_E (dC, dI) vwCl [(cI, .int), (cJ, .long), (cG, .array .int), (cZ, .boolean)] A (cw cI cJ cG cZ a u.1 u.2.1 u.2.2.1 u.2.2.2) t) A) ([.ref (a 40), .ref (a P0)] : List Value).toArray s 0 0 A) (F0 m 0 ls []) := by
    refine lv_aload_n hx hb d_Wa_go_0 rfl (lv_at hl 0 rfl) ?_
    refine lv_aload_n hx hb d_Wa_go_1 rfl (lv_at hl 1 rfl) ?_
    refine zw_cv (va_runV (As := [.ref (a P0)]) (rest := []) ⟨hx, hb, hml, hown, hts⟩ (c_Wa_begin l dC dI cI cJ cG cZ a H.size fi fl ai al P0 _ hP0 hw) (cwV 1 hts (zw_goodV kw_444 kw_446 kw_s4 kw_7 kw_447) rfl rfl rfl hd_Wa_begin ⟨Nat.le_of_ble_eq_true rfl, Nat.le_of_ble_eq_true rfl⟩) (zw_preVw (ci := 6) (q0 := 40) hK hN hP hD rfl rfl) rfl rfl hl.1 rfl (lv_room (Nat.le_of_ble_eq_true rfl)) d_Wa_go_2 ⟨Nat.le_of_ble_eq_true rfl, Nat.le_of_ble_eq_true rfl⟩) hD hS hA (fun fi_2 fl_2 ai_2 al_2 H locs hw hP hD hS => ?_)
    obtain ⟨rfl, hw⟩ := hw
    refine lv_iconst (v := (0 : Int32)) hx hb d_Wa_go_5 (by decide) ?_
    refine lv_topi (fun v6 ev6 => ?_)
    have hw := zw_nm_x ev6 hw
    refine lv_istore_n (lv' := [(2, .int v6), (0, .ref (a 40)), (1, .ref (a P0))]) hx hb d_Wa_go_6 rfl hl (by decide) rfl (fun ls hl => ?_)
    refine lv_iconst (v := (0 : Int32)) hx hb d_Wa_go_7 (by decide) ?_
    refine lv_topi (fun v8 ev8 => ?_)
    have hw := zw_nm_x ev8 hw
    refine lv_istore_n (lv' := [(3, .int v8), (2, .int v6), (0, .ref (a 40)), (1, .ref (a P0))]) hx hb d_Wa_go_8 rfl hl (by decide) rfl (fun ls hl => ?_)
    refine (zw_lp4_i (P := fun (x9_2 : Int32) (x9_3 : Int32) (fi9 : Nat → Int32) (al9 : Nat → Nat → Int64) => ∀ (H : Heap) (locs : List Loc) (ls : Array Slot), va_P (dC, dI) vwCl (cw cI cJ cG cZ a fi9 fl ai_2 al9) H → va_D A (cw cI cJ cG cZ a fi9 fl ai_2 al9) → va_S A s.heap H locs → lv_has ls 6 [(0, .ref (a 40)), (1, .ref (a P0)), (2, .int x9_2), (3, .int x9_3)] → W p l e (headSpec ws_Wa_go ({ frames := 3, cells := 0, slots := 0, locals := 69 })).room s m ([.ref (a 40), .ref (a P0)] : List Value).toArray below meth c H locs 0 0 (MQ below (va_Qi (fun r (u : zw_Z) => (zw_k_fi_ai_alr fl K) r u.1 u.2.1 u.2.2.1 u.2.2.2) (fun u t => zw_E (dC, dI) vwCl [(cI, .int), (cJ, .long), (cG, .array .int), (cZ, .boolean)] A (cw cI cJ cG cZ a u.1 u.2.1 u.2.2.1 u.2.2.2) t) A) ([.ref (a 40), .ref (a P0)] : List Value).toArray s 0 0 A) (F0 m 9 ls [])) hw (fun L9 x9_2 x9_3 fi9 al9 ih9 hw H locs ls hP hD hS hl => ?_)) H locs ls hP hD hS (lv_sub hl [2, 3, 1, 0] rfl)
    refine lv_iload_n hx hb d_Wa_go_9 rfl (lv_at hl 3 rfl) ?_
    refine lv_aload_n hx hb d_Wa_go_10 rfl (lv_at hl 0 rfl) ?_
    refine va_get (D := (dC, dI)) (ci := 6) (v := .ref (a 4)) (C := R_Wa) (T := T_Wa) (N := 11) hx hb ht in_Wa hown hK hP 40 rfl rfl 2 (by decide) (ht _ kw_178) (fun _ h9 => h9) rfl d_Wa_go_11 ?_
    refine va_get (D := (dC, dI)) (ci := 3) (v := .int (fi9 3)) (C := R_Pl) (T := T_Pl) (N := 11) hx hb ht in_Pl hown hK hP 4 rfl rfl 8 (by decide) (ht _ kw_64) (fun _ h9 => h9) rfl d_Wa_go_14 ?_
    refine lv_icmp_ge (tgt := 196) hx hb d_Wa_go_17 (by decide) (fun c17 => ?_) (fun c17 => ?_)
    · have hw := zw_ite_t c17 hw
      refine lv_iconst (v := (1 : Int32)) hx hb d_Wa_go_196 (by decide) ?_
      exact W.zret (v := (1 : Int32)) (ty := .boolean) hx hb hr rfl (fun t ht hW => ⟨⟨(1 : Int32), (fi9, fl, ai_2, al9), rfl, ⟨rfl, hw⟩, by rw [ht]; exact hP, va_K.moved hW.alike hK, hD⟩, hS.F ht⟩) hS.2.2 d_Wa_go_197
    · have hw := zw_ite_f c17 hw
      refine lv_aload_n hx hb d_Wa_go_20 rfl (lv_at hl 0 rfl) ?_
      refine va_get (D := (dC, dI)) (ci := 6) (v := .ref (a 4)) (C := R_Wa) (T := T_Wa) (N := 11) hx hb ht in_Wa hown hK hP 40 rfl rfl 2 (by decide) (ht _ kw_178) (fun _ h9 => h9) rfl d_Wa_go_21 ?_
      refine va_get (D := (dC, dI)) (ci := 3) (v := .ref (a 9)) (C := R_Pl) (T := T_Pl) (N := 11) hx hb ht in_Pl hown hK hP 4 rfl rfl 4 (by decide) (ht _ kw_53) (fun _ h9 => h9) rfl d_Wa_go_24 ?_
      refine lv_iload_n hx hb d_Wa_go_27 rfl (lv_at hl 3 rfl) ?_
      obtain ⟨h28, hw⟩ := hw
      refine va_iald (f := ai_2 9) hx hb hK hP 9 0 rfl rfl h28 d_Wa_go_28 ?_
      refine lv_aload_n hx hb d_Wa_go_29 rfl (lv_at hl 0 rfl) ?_
      refine va_get (D := (dC, dI)) (ci := 6) (v := .int (fi9 8)) (C := R_Wa) (T := T_Wa) (N := 11) hx hb ht in_Wa hown hK hP 40 rfl rfl 8 (by decide) (ht _ kw_186) (fun _ h9 => h9) rfl d_Wa_go_30 ?_
      refine lv_icmp_gt (tgt := 196) hx hb d_Wa_go_33 (by decide) (fun c33 => ?_) (fun c33 => ?_)
      · have hw := zw_ite_t c33 hw
        refine lv_iconst (v := (1 : Int32)) hx hb d_Wa_go_196 (by decide) ?_
        exact W.zret (v := (1 : Int32)) (ty := .boolean) hx hb hr rfl (fun t ht hW => ⟨⟨(1 : Int32), (fi9, fl, ai_2, al9), rfl, ⟨rfl, hw⟩, by rw [ht]; exact hP, va_K.moved hW.alike hK, hD⟩, hS.F ht⟩) hS.2.2 d_Wa_go_197
      · have hw := zw_ite_f c33 hw
        refine lv_aload_n hx hb d_Wa_go_36 rfl (lv_at hl 0 rfl) ?_
        refine va_get (D := (dC, dI)) (ci := 6) (v := .ref (a 4)) (C := R_Wa) (T := T_Wa) (N := 11) hx hb ht in_Wa hown hK hP 40 rfl rfl 2 (by decide) (ht _ kw_178) (fun _ h9 => h9) rfl d_Wa_go_37 ?_
        refine va_get (D := (dC, dI)) (ci := 3) (v := .ref (a 9)) (C := R_Pl) (T := T_Pl) (N := 11) hx hb ht in_Pl hown hK hP 4 rfl rfl 4 (by decide) (ht _ kw_53) (fun _ h9 => h9) rfl d_Wa_go_40 ?_
        refine lv_iload_n hx hb d_Wa_go_43 rfl (lv_at hl 3 rfl) ?_
        obtain ⟨h44, hw⟩ := hw
        refine va_iald (f := ai_2 9) hx hb hK hP 9 0 rfl rfl h44 d_Wa_go_44 ?_
        refine lv_topi (fun v45 ev45 => ?_)
        have hw := zw_nm_x ev45 hw
        refine lv_istore (lv' := [(4, .int v45), (0, .ref (a 40)), (1, .ref (a P0)), (2, .int x9_2), (3, .int x9_3)]) hx hb d_Wa_go_45 hl (by decide) rfl (fun ls hl => ?_)
        refine lv_aload_n hx hb d_Wa_go_47 rfl (lv_at hl 1 rfl) ?_
        refine va_get (D := (dC, dI)) (ci := 6) (v := .ref (a 4)) (C := R_Wa) (T := T_Wa) (N := 11) hx hb ht in_Wa hown hK hP 40 rfl rfl 2 (by decide) (ht _ kw_178) (fun _ h9 => h9) rfl d_Wa_go_48 ?_
        refine va_get (D := (dC, dI)) (ci := 3) (v := .ref (a 7)) (C := R_Pl) (T := T_Pl) (N := 11) hx hb ht in_Pl hown hK hP 4 rfl rfl 2 (by decide) (ht _ kw_49) (fun _ h9 => h9) rfl d_Wa_go_51 ?_
        refine lv_iload_n hx hb d_Wa_go_54 rfl (lv_at hl 4 rfl) ?_
        obtain ⟨h55, hw⟩ := hw
        refine va_iald (f := ai_2 7) hx hb hK hP 7 0 rfl rfl h55 d_Wa_go_55 ?_
        refine lv_topi (fun v56 ev56 => ?_)
        have hw := zw_nm_x ev56 hw
        refine lv_istore (lv' := [(5, .int v56), (4, .int v45), (0, .ref (a 40)), (1, .ref (a P0)), (2, .int x9_2), (3, .int x9_3)]) hx hb d_Wa_go_56 hl (by decide) rfl (fun ls hl => ?_)
        refine lv_aload_n hx hb d_Wa_go_58 rfl (lv_at hl 2 rfl) ?_
        refine va_get (D := (dC, dI)) (ci := 6) (v := .ref (a 4)) (C := R_Wa) (T := T_Wa) (N := 11) hx hb ht in_Wa hown hK hP 40 rfl rfl 2 (by decide) (ht _ kw_178) (fun _ h9 => h9) rfl d_Wa_go_59 ?_
        refine va_get (D := (dC, dI)) (ci := 3) (v := .ref (a 6)) (C := R_Pl) (T := T_Pl) (N := 11) hx hb ht in_Pl hown hK hP 4 rfl rfl 1 (by decide) (ht _ kw_47) (fun _ h9 => h9) rfl d_Wa_go_62 ?_
        refine lv_iload_n hx hb d_Wa_go_65 rfl (lv_at hl 5 rfl) ?_
        obtain ⟨h66, hw⟩ := hw
        refine va_iald (f := ai_2 6) hx hb hK hP 6 0 rfl rfl h66 d_Wa_go_66 ?_
        refine zw_jn3_i (P := fun (x190_2 : Int32) (fi190 : Nat → Int32) (al190 : Nat → Nat → Int64) => ∀ (H : Heap) (locs : List Loc) (ls : Array Slot), va_P (dC, dI) vwCl (cw cI cJ cG cZ a fi190 fl ai_2 al190) H → va_D A (cw cI cJ cG cZ a fi190 fl ai_2 al190) → va_S A s.heap H locs → lv_has ls 6 [(0, .ref (a 40)), (1, .ref (a P0)), (2, .int x190_2), (3, .int x9_3)] → W p l e (headSpec ws_Wa_go ({ frames := 3, cells := 0, slots := 0, locals := 69 })).room s m ([.ref (a 40), .ref (a P0)] : List Value).toArray below meth c H locs 0 0 (MQ below (va_Qi (fun r (u : zw_Z) => (zw_k_fi_ai_alr fl K) r u.1 u.2.1 u.2.2.1 u.2.2.2) (fun u t => zw_E (dC, dI) vwCl [(cI, .int), (cJ, .long), (cG, .array .int), (cZ, .boolean)] A (cw cI cJ cG cZ a u.1 u.2.1 u.2.2.1 u.2.2.2) t) A) ([.ref (a 40), .ref (a P0)] : List Value).toArray s 0 0 A) (F0 m 190 ls [])) hw (fun x190_2 fi190 al190 hw H locs ls hP hD hS hl => ?_) (fun J190 hj190 hw => ?_)
        · obtain ⟨v190, ev190⟩ : ∃ y : Int32, y = x9_3 + (1 : Int32) := ⟨_, rfl⟩
          refine lv_iinc (v := v190) (lv' := [(3, .int v190), (0, .ref (a 40)), (1, .ref (a P0)), (2, .int x190_2)]) hx hb d_Wa_go_190 hl (k := 3) rfl (by rw [ev190]; rfl) (by decide) rfl (fun ls hl => ?_)
          have hw := zw_nm_x ev190 hw
          refine lv_goto (tgt := 9) hx hb d_Wa_go_193 (by decide) ?_
          exact (ih9 x190_2 v190 fi190 al190 hw) H locs ls hP hD hS (lv_sub hl [1, 2, 3, 0] rfl)
        · by_cases c67_0 : (ai_2 6 x9_3.toNatClampNeg) = (0 : Int32)
          · have hw := zw_ite_t c67_0 hw
            refine lv_tableIn (off := 25) (tgt := 92) hx hb d_Wa_go_67 (by rw [c67_0]; decide) (by rw [c67_0]; decide) (by rw [c67_0]; rfl) (by decide) ?_
            refine lv_aload_n hx hb d_Wa_go_92 rfl (lv_at hl 2 rfl) ?_
            refine lv_dup hx hb d_Wa_go_93 rfl ?_
            refine va_get (D := (dC, dI)) (ci := 6) (v := .int (fi9 9)) (C := R_Wa) (T := T_Wa) (N := 11) hx hb ht in_Wa hown hK hP 40 rfl rfl 9 (by decide) (ht _ kw_187) (fun _ h9 => h9) rfl d_Wa_go_94 ?_
            refine lv_iconst (v := (1 : Int32)) hx hb d_Wa_go_97 (by decide) ?_
            refine lv_aload_n hx hb d_Wa_go_98 rfl (lv_at hl 3 rfl) ?_
            refine lv_iload_n hx hb d_Wa_go_99 rfl (lv_at hl 4 rfl) ?_
            obtain ⟨h100, hw⟩ := hw
            refine va_iald (f := ai_2 P0) hx hb hK hP P0 0 (hP0 _ _ _ _) rfl h100 d_Wa_go_100 ?_
            refine lv_ishl hx hb d_Wa_go_101 ?_
            refine lv_ior hx hb d_Wa_go_102 ?_
            refine va_put (D := (dC, dI)) (ci := 6) (v := .int ((fi9 9) ||| ((1 : Int32) <<< ((ai_2 P0 x9_2.toNatClampNeg) &&& 31)))) (ty := .int) (C := R_Wa) (T := T_Wa) (N := 11) hx hb ht in_Wa t_Wa t_Wa_ok n_Wa hown hK hP hD hS 40 rfl rfl 9 (by decide) (ht _ kw_187) (fun _ h9 => h9) rfl (by decide +kernel) rfl rfl (Nat.le_of_ble_eq_true rfl) d_Wa_go_103 (fun H locs hP hD hS => ?_)
            have hP := cwpfi_9 hP
            have hD := cwdfi_9 hD
            obtain ⟨fi_103, efi_103⟩ : ∃ z, z = va_up fi9 9 ((fi9 9) ||| ((1 : Int32) <<< ((ai_2 P0 x9_2.toNatClampNeg) &&& 31))) := ⟨_, rfl⟩
            rw [← efi_103] at hP hD
            have hw := zw_nm_x efi_103 hw
            refine lv_aload_n hx hb d_Wa_go_106 rfl (lv_at hl 2 rfl) ?_
            refine lv_iload hx hb d_Wa_go_107 (lv_at hl 1 rfl) ?_
            refine lv_aload_n hx hb d_Wa_go_109 rfl (lv_at hl 3 rfl) ?_
            refine lv_iload_n hx hb d_Wa_go_110 rfl (lv_at hl 4 rfl) ?_
            obtain ⟨h111, hw⟩ := hw
            refine va_iald (f := ai_2 P0) hx hb hK hP P0 0 (hP0 _ _ _ _) rfl h111 d_Wa_go_111 ?_
            refine lv_aload_n hx hb d_Wa_go_112 rfl (lv_at hl 2 rfl) ?_
            refine va_get (D := (dC, dI)) (ci := 6) (v := .ref (a 19)) (C := R_Wa) (T := T_Wa) (N := 11) hx hb ht in_Wa hown hK hP 40 rfl rfl 0 (by decide) (ht _ kw_176) (fun _ h9 => h9) rfl d_Wa_go_113 ?_
            refine va_get (D := (dC, dI)) (ci := 2) (v := .ref (a 20)) (C := R_Gi) (T := T_Gi) (N := 7) hx hb ht in_Gi hown hK hP 19 rfl rfl 1 (by decide) (ht _ kw_140) (fun _ h9 => h9) rfl d_Wa_go_116 ?_
            refine lv_aload_n hx hb d_Wa_go_119 rfl (lv_at hl 3 rfl) ?_
            refine lv_iload_n hx hb d_Wa_go_120 rfl (lv_at hl 4 rfl) ?_
            obtain ⟨h121, hw⟩ := hw
            refine va_iald (f := ai_2 P0) hx hb hK hP P0 0 (hP0 _ _ _ _) rfl h121 d_Wa_go_121 ?_
            obtain ⟨h122, hw⟩ := hw
            refine va_iald (f := ai_2 20) hx hb hK hP 20 0 rfl rfl h122 d_Wa_go_122 ?_
            refine zw_cv (va_runV (As := [.int v45, .int (ai_2 P0 x9_2.toNatClampNeg), .int (ai_2 20 (ai_2 P0 x9_2.toNatClampNeg).toNatClampNeg)]) (rest := []) ⟨hx, hb, hml, hown, hts⟩ (c_Wa_press l dC dI cI cJ cG cZ a H.size fi_103 fl ai_2 al9 v45 (ai_2 P0 x9_2.toNatClampNeg) (ai_2 20 (ai_2 P0 x9_2.toNatClampNeg).toNatClampNeg) _ hw) (cwV 3 hts (zw_goodV kw_454 kw_456 kw_s5 kw_7 kw_457) rfl rfl rfl hd_Wa_press ⟨Nat.le_of_ble_eq_true rfl, Nat.le_of_ble_eq_true rfl⟩) (zw_preVw (ci := 6) (q0 := 40) hK hN hP hD rfl rfl) rfl rfl hl.1 rfl (lv_room (Nat.le_of_ble_eq_true rfl)) d_Wa_go_123 ⟨Nat.le_of_ble_eq_true rfl, Nat.le_of_ble_eq_true rfl⟩) hD hS hA (fun fi_123 fl_123 ai_123 al_123 H locs hw hP hD hS => ?_)
            obtain ⟨rfl, rfl, rfl, hw⟩ := hw
            obtain ⟨v126, ev126⟩ : ∃ y : Int32, y = x9_2 + (1 : Int32) := ⟨_, rfl⟩
            refine lv_iinc (v := v126) (lv' := [(2, .int v126), (5, .int v56), (4, .int v45), (0, .ref (a 40)), (1, .ref (a P0)), (3, .int x9_3)]) hx hb d_Wa_go_126 hl (k := 4) rfl (by rw [ev126]; rfl) (by decide) rfl (fun ls hl => ?_)
            have hw := zw_nm_x ev126 hw
            refine lv_goto (tgt := 190) hx hb d_Wa_go_129 (by decide) ?_
            exact (hj190 v126 fi_103 al_123 hw) H locs ls hP hD hS (lv_sub hl [3, 4, 0, 5] rfl)
          · have hw := zw_ite_f c67_0 hw
            by_cases c67_1 : (ai_2 6 x9_3.toNatClampNeg) = (1 : Int32)
            · have hw := zw_ite_t c67_1 hw
              refine lv_tableIn (off := 65) (tgt := 132) hx hb d_Wa_go_67 (by rw [c67_1]; decide) (by rw [c67_1]; decide) (by rw [c67_1]; rfl) (by decide) ?_
              refine lv_aload_n hx hb d_Wa_go_132 rfl (lv_at hl 2 rfl) ?_
              refine va_get (D := (dC, dI)) (ci := 6) (v := .int (fi9 9)) (C := R_Wa) (T := T_Wa) (N := 11) hx hb ht in_Wa hown hK hP 40 rfl rfl 9 (by decide) (ht _ kw_187) (fun _ h9 => h9) rfl d_Wa_go_133 ?_
              refine lv_iload hx hb d_Wa_go_136 (lv_at hl 0 rfl) ?_
              refine vp_callSi (va_Run.run (va_runSN (As := [.int (fi9 9), .int v56]) (rest := []) ⟨hx, hb, hml, hown, hts⟩ (c_SS_hasBit l (fi9 9) v56 _ hw) ⟨va_cnB 2 hts (zw_goodC kw_321) rfl rfl rfl (hN _ nw_463) (ht _ kw_1) hd_SS_hasBit.2 ⟨Nat.le_of_ble_eq_true rfl, Nat.le_of_ble_eq_true rfl⟩, ht _ kw_320, trivial⟩ zw_preS0 rfl rfl hl.1 rfl (lv_room (Nat.le_of_ble_eq_true rfl)) d_Wa_go_138 ⟨Nat.le_of_ble_eq_true rfl, Nat.le_of_ble_eq_true rfl⟩)) (fun r138 hw => ?_)
              refine lv_if_ne (tgt := 146) hx hb d_Wa_go_141 (by decide) (fun c141 => ?_) (fun c141 => ?_)
              · have hw := zw_ite_f c141 hw
                refine lv_aload_n hx hb d_Wa_go_146 rfl (lv_at hl 2 rfl) ?_
                refine lv_iload hx hb d_Wa_go_147 (lv_at hl 1 rfl) ?_
                refine lv_iload hx hb d_Wa_go_149 (lv_at hl 0 rfl) ?_
                refine lv_aload_n hx hb d_Wa_go_151 rfl (lv_at hl 2 rfl) ?_
                refine va_get (D := (dC, dI)) (ci := 6) (v := .ref (a 4)) (C := R_Wa) (T := T_Wa) (N := 11) hx hb ht in_Wa hown hK hP 40 rfl rfl 2 (by decide) (ht _ kw_178) (fun _ h9 => h9) rfl d_Wa_go_152 ?_
                refine va_get (D := (dC, dI)) (ci := 3) (v := .ref (a 8)) (C := R_Pl) (T := T_Pl) (N := 11) hx hb ht in_Pl hown hK hP 4 rfl rfl 3 (by decide) (ht _ kw_51) (fun _ h9 => h9) rfl d_Wa_go_155 ?_
                refine lv_iload_n hx hb d_Wa_go_158 rfl (lv_at hl 5 rfl) ?_
                obtain ⟨h159, hw⟩ := hw
                refine va_iald (f := ai_2 8) hx hb hK hP 8 0 rfl rfl h159 d_Wa_go_159 ?_
                refine zw_cv (va_runV (As := [.int v45, .int v56, .int (ai_2 8 x9_3.toNatClampNeg)]) (rest := []) ⟨hx, hb, hml, hown, hts⟩ (c_Wa_press l dC dI cI cJ cG cZ a H.size fi9 fl ai_2 al9 v45 v56 (ai_2 8 x9_3.toNatClampNeg) _ hw) (cwV 3 hts (zw_goodV kw_454 kw_456 kw_s5 kw_7 kw_457) rfl rfl rfl hd_Wa_press ⟨Nat.le_of_ble_eq_true rfl, Nat.le_of_ble_eq_true rfl⟩) (zw_preVw (ci := 6) (q0 := 40) hK hN hP hD rfl rfl) rfl rfl hl.1 rfl (lv_room (Nat.le_of_ble_eq_true rfl)) d_Wa_go_160 ⟨Nat.le_of_ble_eq_true rfl, Nat.le_of_ble_eq_true rfl⟩) hD hS hA (fun fi_160 fl_160 ai_160 al_160 H locs hw hP hD hS => ?_)
                obtain ⟨rfl, rfl, rfl, hw⟩ := hw
                refine lv_goto (tgt := 190) hx hb d_Wa_go_163 (by decide) ?_
                exact (hj190 x9_2 fi9 al_160 hw) H locs ls hP hD hS (lv_sub hl [2, 3, 4, 5] rfl)
              · have hw := zw_ite_t c141 hw
                refine lv_iconst (v := (0 : Int32)) hx hb d_Wa_go_144 (by decide) ?_
                exact W.zret (v := (0 : Int32)) (ty := .boolean) hx hb hr rfl (fun t ht hW => ⟨⟨(0 : Int32), (fi9, fl, ai_2, al9), rfl, ⟨rfl, hw⟩, by rw [ht]; exact hP, va_K.moved hW.alike hK, hD⟩, hS.F ht⟩) hS.2.2 d_Wa_go_145
            · have hw := zw_ite_f c67_1 hw
              by_cases c67_2 : (ai_2 6 x9_3.toNatClampNeg) = (2 : Int32)
              · have hw := zw_ite_t c67_2 hw
                refine lv_tableIn (off := 99) (tgt := 166) hx hb d_Wa_go_67 (by rw [c67_2]; decide) (by rw [c67_2]; decide) (by rw [c67_2]; rfl) (by decide) ?_
                refine lv_aload_n hx hb d_Wa_go_166 rfl (lv_at hl 2 rfl) ?_
                refine lv_dup hx hb d_Wa_go_167 rfl ?_
                refine va_get (D := (dC, dI)) (ci := 6) (v := .int (fi9 10)) (C := R_Wa) (T := T_Wa) (N := 11) hx hb ht in_Wa hown hK hP 40 rfl rfl 10 (by decide) (ht _ kw_188) (fun _ h9 => h9) rfl d_Wa_go_168 ?_
                refine lv_iconst (v := (1 : Int32)) hx hb d_Wa_go_171 (by decide) ?_
                refine lv_iload hx hb d_Wa_go_172 (lv_at hl 0 rfl) ?_
                refine lv_ishl hx hb d_Wa_go_174 ?_
                refine lv_ior hx hb d_Wa_go_175 ?_
                refine va_put (D := (dC, dI)) (ci := 6) (v := .int ((fi9 10) ||| ((1 : Int32) <<< (v56 &&& 31)))) (ty := .int) (C := R_Wa) (T := T_Wa) (N := 11) hx hb ht in_Wa t_Wa t_Wa_ok n_Wa hown hK hP hD hS 40 rfl rfl 10 (by decide) (ht _ kw_188) (fun _ h9 => h9) rfl (by decide +kernel) rfl rfl (Nat.le_of_ble_eq_true rfl) d_Wa_go_176 (fun H locs hP hD hS => ?_)
                have hP := cwpfi_10 hP
                have hD := cwdfi_10 hD
                obtain ⟨fi_176, efi_176⟩ : ∃ z, z = va_up fi9 10 ((fi9 10) ||| ((1 : Int32) <<< (v56 &&& 31))) := ⟨_, rfl⟩
                rw [← efi_176] at hP hD
                have hw := zw_nm_x efi_176 hw
                refine lv_goto (tgt := 190) hx hb d_Wa_go_179 (by decide) ?_
                exact (hj190 x9_2 fi_176 al9 hw) H locs ls hP hD hS (lv_sub hl [2, 3, 4, 5] rfl)
              · have hw := zw_ite_f c67_2 hw
                refine lv_tableOut (tgt := 182) hx hb d_Wa_go_67 (by have := lv_neT (a := 0) c67_0 (by decide); have := lv_neT (a := 1) c67_1 (by decide); have := lv_neT (a := 2) c67_2 (by decide); omega) (by decide) ?_
                refine lv_aload_n hx hb d_Wa_go_182 rfl (lv_at hl 2 rfl) ?_
                refine lv_iload hx hb d_Wa_go_183 (lv_at hl 1 rfl) ?_
                refine lv_iload hx hb d_Wa_go_185 (lv_at hl 0 rfl) ?_
                refine zw_cv (va_runV (As := [.int v45, .int v56]) (rest := []) ⟨hx, hb, hml, hown, hts⟩ (c_Wa_letGo l dC dI cI cJ cG cZ a H.size fi9 fl ai_2 al9 v45 v56 _ hw) (cwV 2 hts (zw_goodV kw_464 kw_466 kw_s7 kw_7 kw_467) rfl rfl rfl hd_Wa_letGo ⟨Nat.le_of_ble_eq_true rfl, Nat.le_of_ble_eq_true rfl⟩) (zw_preVw (ci := 6) (q0 := 40) hK hN hP hD rfl rfl) rfl rfl hl.1 rfl (lv_room (Nat.le_of_ble_eq_true rfl)) d_Wa_go_187 ⟨Nat.le_of_ble_eq_true rfl, Nat.le_of_ble_eq_true rfl⟩) hD hS hA (fun fi_187 fl_187 ai_187 al_187 H locs hw hP hD hS => ?_)
                obtain ⟨rfl, rfl, hw⟩ := hw
                exact (hj190 x9_2 fi_187 al_187 hw) H locs ls hP hD hS (lv_sub hl [2, 3, 4, 5] rfl)
  rw [hH, hlo] at key
  exact key
def SS_castAll_w (fi : Nat → Int32) (fl : Nat → Int64) (ai : Nat → Nat → Int32) (al : Nat → Nat → Int64) (K : (Nat → Int32) → (Nat → Nat → Int32) → (Nat → Nat → Int64) → Prop) : Prop :=
  Pl_endDay_w fi fl ai al  (fun (r17 : Int32) =>
  Wa_aim_w fi fl ai al ((fi 2) - (1 : Int32)) r17 (fun (fi_20 : Nat → Int32) (ai_20 : Nat → Nat → Int32) =>
  Wa_go_w fi_20 fl ai_20 al 10 (fun (r34 : Int32) (fi_34 : Nat → Int32) (ai_34 : Nat → Nat → Int32) (al_34 : Nat → Nat → Int64) =>
  zw_nm (0 : Int32) (fun (v39 : Int32) =>
  zw_lp2 (fun L40 (x40_1 : Int32) (al40 : Nat → Nat → Int64) =>
  if (fi_34 7) ≤ x40_1 then (
    K fi_34 ai_34 al40)
  else (
    vp_in x40_1 6 ∧ (
    vp_in x40_1 6 ∧ (
    vp_in x40_1 6 ∧ (
    vp_in x40_1 6 ∧ (zw_nm (va_up al40 18 (vp_updL (al40 18) x40_1.toNatClampNeg ((((ai_34 21 x40_1.toNatClampNeg).toInt64 * (1000000000 : Int64)) - (al40 41 x40_1.toNatClampNeg)) + (al40 17 x40_1.toNatClampNeg)))) (fun (al_87 : Nat → Nat → Int64) =>
    zw_nm (x40_1 + (1 : Int32)) (fun (v88 : Int32) =>
    L40 v88 al_87)))))))) v39 al_34))))
theorem d_SS_castAll_0 : decode b_SS_castAll 0 = .ok (.aload_n 0, 1) := by decide +kernel
theorem d_SS_castAll_1 : decode b_SS_castAll 1 = .ok (.getfield 64, 3) := by decide +kernel
theorem d_SS_castAll_4 : decode b_SS_castAll 4 = .ok (.aload_n 0, 1) := by decide +kernel
theorem d_SS_castAll_5 : decode b_SS_castAll 5 = .ok (.getfield 19, 3) := by decide +kernel
theorem d_SS_castAll_8 : decode b_SS_castAll 8 = .ok (.getfield 160, 3) := by decide +kernel
theorem d_SS_castAll_11 : decode b_SS_castAll 11 = .ok (.iconst 1, 1) := by decide +kernel
theorem d_SS_castAll_12 : decode b_SS_castAll 12 = .ok (.isub, 1) := by decide +kernel
theorem d_SS_castAll_13 : decode b_SS_castAll 13 = .ok (.aload_n 0, 1) := by decide +kernel
theorem d_SS_castAll_14 : decode b_SS_castAll 14 = .ok (.getfield 19, 3) := by decide +kernel
theorem d_SS_castAll_17 : decode b_SS_castAll 17 = .ok (.invokevirtual 244, 3) := by decide +kernel
theorem d_SS_castAll_20 : decode b_SS_castAll 20 = .ok (.invokevirtual 251, 3) := by decide +kernel
theorem d_SS_castAll_23 : decode b_SS_castAll 23 = .ok (.aload_n 0, 1) := by decide +kernel
theorem d_SS_castAll_24 : decode b_SS_castAll 24 = .ok (.getfield 64, 3) := by decide +kernel
theorem d_SS_castAll_27 : decode b_SS_castAll 27 = .ok (.aload_n 0, 1) := by decide +kernel
theorem d_SS_castAll_28 : decode b_SS_castAll 28 = .ok (.getfield 19, 3) := by decide +kernel
theorem d_SS_castAll_31 : decode b_SS_castAll 31 = .ok (.getfield 254, 3) := by decide +kernel
theorem d_SS_castAll_34 : decode b_SS_castAll 34 = .ok (.invokevirtual 257, 3) := by decide +kernel
theorem d_SS_castAll_37 : decode b_SS_castAll 37 = .ok (.pop, 1) := by decide +kernel
theorem d_SS_castAll_38 : decode b_SS_castAll 38 = .ok (.iconst 0, 1) := by decide +kernel
theorem d_SS_castAll_39 : decode b_SS_castAll 39 = .ok (.istore_n 1, 1) := by decide +kernel
theorem d_SS_castAll_40 : decode b_SS_castAll 40 = .ok (.iload_n 1, 1) := by decide +kernel
theorem d_SS_castAll_41 : decode b_SS_castAll 41 = .ok (.aload_n 0, 1) := by decide +kernel
theorem d_SS_castAll_42 : decode b_SS_castAll 42 = .ok (.getfield 55, 3) := by decide +kernel
theorem d_SS_castAll_45 : decode b_SS_castAll 45 = .ok (.getfield 222, 3) := by decide +kernel
theorem d_SS_castAll_48 : decode b_SS_castAll 48 = .ok (.if_icmp .ge (46), 3) := by decide +kernel
theorem d_SS_castAll_51 : decode b_SS_castAll 51 = .ok (.aload_n 0, 1) := by decide +kernel
theorem d_SS_castAll_52 : decode b_SS_castAll 52 = .ok (.getfield 34, 3) := by decide +kernel
theorem d_SS_castAll_55 : decode b_SS_castAll 55 = .ok (.iload_n 1, 1) := by decide +kernel
theorem d_SS_castAll_56 : decode b_SS_castAll 56 = .ok (.aload_n 0, 1) := by decide +kernel
theorem d_SS_castAll_57 : decode b_SS_castAll 57 = .ok (.getfield 55, 3) := by decide +kernel
theorem d_SS_castAll_60 : decode b_SS_castAll 60 = .ok (.getfield 91, 3) := by decide +kernel
theorem d_SS_castAll_63 : decode b_SS_castAll 63 = .ok (.iload_n 1, 1) := by decide +kernel
theorem d_SS_castAll_64 : decode b_SS_castAll 64 = .ok (.iaload, 1) := by decide +kernel
theorem d_SS_castAll_65 : decode b_SS_castAll 65 = .ok (.i2l, 1) := by decide +kernel
theorem d_SS_castAll_66 : decode b_SS_castAll 66 = .ok (.ldc2_w 197, 3) := by decide +kernel
theorem d_SS_castAll_69 : decode b_SS_castAll 69 = .ok (.lmul, 1) := by decide +kernel
theorem d_SS_castAll_70 : decode b_SS_castAll 70 = .ok (.aload_n 0, 1) := by decide +kernel
theorem d_SS_castAll_71 : decode b_SS_castAll 71 = .ok (.getfield 64, 3) := by decide +kernel
theorem d_SS_castAll_74 : decode b_SS_castAll 74 = .ok (.getfield 180, 3) := by decide +kernel
theorem d_SS_castAll_77 : decode b_SS_castAll 77 = .ok (.iload_n 1, 1) := by decide +kernel
theorem d_SS_castAll_78 : decode b_SS_castAll 78 = .ok (.laload, 1) := by decide +kernel
theorem d_SS_castAll_79 : decode b_SS_castAll 79 = .ok (.lsub, 1) := by decide +kernel
theorem d_SS_castAll_80 : decode b_SS_castAll 80 = .ok (.aload_n 0, 1) := by decide +kernel
theorem d_SS_castAll_81 : decode b_SS_castAll 81 = .ok (.getfield 30, 3) := by decide +kernel
theorem d_SS_castAll_84 : decode b_SS_castAll 84 = .ok (.iload_n 1, 1) := by decide +kernel
theorem d_SS_castAll_85 : decode b_SS_castAll 85 = .ok (.laload, 1) := by decide +kernel
theorem d_SS_castAll_86 : decode b_SS_castAll 86 = .ok (.ladd, 1) := by decide +kernel
theorem d_SS_castAll_87 : decode b_SS_castAll 87 = .ok (.lastore, 1) := by decide +kernel
theorem d_SS_castAll_88 : decode b_SS_castAll 88 = .ok (.iinc 1 (1), 3) := by decide +kernel
theorem d_SS_castAll_91 : decode b_SS_castAll 91 = .ok (.goto (-51), 3) := by decide +kernel
theorem d_SS_castAll_94 : decode b_SS_castAll 94 = .ok (.return_, 1) := by decide +kernel
set_option maxHeartbeats 4000000 in
set_option maxRecDepth 100000 in
theorem c_SS_castAll (l : Launch) (dC : Nat → ClassId) (dI : Nat → Nat → Nat) (cI cJ cG cZ : ClassId) (a : Nat → Nat) (sz : Nat) (fi : Nat → Int32) (fl : Nat → Int64) (ai : Nat → Nat → Int32) (al : Nat → Nat → Int64) (K : (Nat → Int32) → (Nat → Nat → Int32) → (Nat → Nat → Int64) → Prop) (hw : SS_castAll_w fi fl ai al K) : Met l y_SS_castAll ws_SS_castAll ({ frames := 4, cells := 0, slots := 0, locals := 94 }) (va_Pc [.ref (a 0)] (zw_Bw (dC, dI) vwCl [(cI, .int), (cJ, .long), (cG, .array .int), (cZ, .boolean)] (cw cI cJ cG cZ a fi fl ai al) sz)) (va_Qv (fun (u : zw_Z) => (zw_k_fi_ai_alv fl K) u.1 u.2.1 u.2.2.1 u.2.2.2) (fun u t => zw_E (dC, dI) vwCl [(cI, .int), (cJ, .long), (cG, .array .int), (cZ, .boolean)] (va_A (cw cI cJ cG cZ a fi fl ai al) sz) (cw cI cJ cG cZ a u.1 u.2.1 u.2.2.1 u.2.2.2) t) (va_A (cw cI cJ cG cZ a fi fl ai al) sz)) 0 0 (va_A (cw cI cJ cG cZ a fi fl ai al) sz) := by
  refine Met.ofW (cc := b_SS_castAll) (maxL := 2) (ret := (Option.none : Option FieldType)) (by decide) rfl ?_
  intro p e s m args below meth c s₁ B hml hv
  obtain ⟨rfl, hsz, hP, hK, hD0, hN⟩ := hv
  have hx := B.exec
  have hb := B.bytes
  have hr := B.returns
  have hts := atoms_spec (ws := ws_SS_castAll) B.pre
  have ht : ∀ w ∈ zw_tbl, w.before _ s = true := fun w h => hts w (List.mem_cons_of_mem _ h)
  have hown : s.vm.findClass R_SS = some m.cls := findClass_of_methodNamed B.named
  have hlocks := B.notSynchronized
  subst hsz
  have hD := hD0.self (sz := s.heap.size)
  generalize hAe : va_A (cw cI cJ cG cZ a fi fl ai al) s.heap.size = A at hD ⊢
  have hA : ∀ q : Nat, s.heap.size ≤ q → A q := fun q h => by rw [← hAe]; exact Or.inr h
  have hS : va_S A s.heap s.heap [] := va_S.rf
  have hl := lv_entry ([.ref (a 0)] : List Value) (n := 2) (Nat.le_of_ble_eq_true rfl)
  rw [lg_entry_eq]
  generalize (lg_sl ([.ref (a 0)] : List Value) ++ List.replicate (2 - (lg_sl ([.ref (a 0)] : List Value)).length) Slot.unset).toArray = ls at hl ⊢
  have hl : lv_has ls 2 [(0, .ref (a 0))] := hl
  unfold SS_castAll_w at hw
  obtain ⟨H, hH⟩ : ∃ H, H = s.heap := ⟨_, rfl⟩
  obtain ⟨locs, hlo⟩ : ∃ q : List Loc, q = [] := ⟨_, rfl⟩
  have hP : va_P (dC, dI) vwCl (cw cI cJ cG cZ a fi fl ai al) H := by rw [hH]; exact hP
  have hS : va_S A s.heap H locs := by rw [hH, hlo]; exact hS
  have key : W p l e (headSpec ws_SS_castAll ({ frames := 4, cells := 0, slots := 0, locals := 94 })).room s m ([.ref (a 0)] : List Value).toArray below meth c H locs 0 0 (MQ below (va_Qv (fun (u : zw_Z) => (zw_k_fi_ai_alv fl K) u.1 u.2.1 u.2.2.1 u.2.2.2) (fun u t => zw_E (dC, dI) vwCl [(cI, .int), (cJ, .long), (cG, .array .int), (cZ, .boolean)] A (cw cI cJ cG cZ a u.1 u.2.1 u.2.2.1 u.2.2.2) t) A) ([.ref (a 0)] : List Value).toArray s 0 0 A) (F0 m 0 ls []) := by
    refine lv_aload_n hx hb d_SS_castAll_0 rfl (lv_at hl 0 rfl) ?_
    refine va_get (D := (dC, dI)) (ci := 0) (v := .ref (a 40)) (C := R_SS) (T := T_SS) (N := 9) hx hb ht in_SS hown hK hP 0 rfl rfl 4 (by decide) (ht _ kw_246) (fun _ h9 => h9) rfl d_SS_castAll_1 ?_
    refine lv_aload_n hx hb d_SS_castAll_4 rfl (lv_at hl 0 rfl) ?_
    refine va_get (D := (dC, dI)) (ci := 0) (v := .ref (a 4)) (C := R_SS) (T := T_SS) (N := 9) hx hb ht in_SS hown hK hP 0 rfl rfl 2 (by decide) (ht _ kw_244) (fun _ h9 => h9) rfl d_SS_castAll_5 ?_
    refine va_get (D := (dC, dI)) (ci := 3) (v := .int (fi 2)) (C := R_Pl) (T := T_Pl) (N := 11) hx hb ht in_Pl hown hK hP 4 rfl rfl 7 (by decide) (ht _ kw_62) (fun _ h9 => h9) rfl d_SS_castAll_8 ?_
    refine lv_iconst (v := (1 : Int32)) hx hb d_SS_castAll_11 (by decide) ?_
    refine lv_isub hx hb d_SS_castAll_12 ?_
    refine lv_aload_n hx hb d_SS_castAll_13 rfl (lv_at hl 0 rfl) ?_
    refine va_get (D := (dC, dI)) (ci := 0) (v := .ref (a 4)) (C := R_SS) (T := T_SS) (N := 9) hx hb ht in_SS hown hK hP 0 rfl rfl 2 (by decide) (ht _ kw_244) (fun _ h9 => h9) rfl d_SS_castAll_14 ?_
    refine vp_callSi (va_Run.run (va_runV (As := []) (rest := [.int ((fi 2) - (1 : Int32)), .ref (a 40)]) ⟨hx, hb, hml, hown, hts⟩ (c_Pl_endDay l dC dI cI cJ cG cZ a fi fl ai al _ hw) (cwV 0 hts (zw_goodV kw_427 kw_428 kw_429 kw_3 kw_430) rfl rfl rfl hd_Pl_endDay ⟨Nat.le_of_ble_eq_true rfl, Nat.le_of_ble_eq_true rfl⟩) (zw_preV (ci := 3) (q0 := 4) hK hN hP rfl rfl) rfl rfl hl.1 rfl (lv_room (Nat.le_of_ble_eq_true rfl)) d_SS_castAll_17 ⟨Nat.le_of_ble_eq_true rfl, Nat.le_of_ble_eq_true rfl⟩)) (fun r17 hw => ?_)
    refine zw_cv (va_runV (As := [.int ((fi 2) - (1 : Int32)), .int r17]) (rest := []) ⟨hx, hb, hml, hown, hts⟩ (c_Wa_aim l dC dI cI cJ cG cZ a H.size fi fl ai al ((fi 2) - (1 : Int32)) r17 _ hw) (cwV 2 hts (zw_goodV kw_432 kw_433 kw_434 kw_7 kw_435) rfl rfl rfl hd_Wa_aim ⟨Nat.le_of_ble_eq_true rfl, Nat.le_of_ble_eq_true rfl⟩) (zw_preVw (ci := 6) (q0 := 40) hK hN hP hD rfl rfl) rfl rfl hl.1 rfl (lv_room (Nat.le_of_ble_eq_true rfl)) d_SS_castAll_20 ⟨Nat.le_of_ble_eq_true rfl, Nat.le_of_ble_eq_true rfl⟩) hD hS hA (fun fi_20 fl_20 ai_20 al_20 H locs hw hP hD hS => ?_)
    obtain ⟨rfl, rfl, hw⟩ := hw
    refine lv_aload_n hx hb d_SS_castAll_23 rfl (lv_at hl 0 rfl) ?_
    refine va_get (D := (dC, dI)) (ci := 0) (v := .ref (a 40)) (C := R_SS) (T := T_SS) (N := 9) hx hb ht in_SS hown hK hP 0 rfl rfl 4 (by decide) (ht _ kw_246) (fun _ h9 => h9) rfl d_SS_castAll_24 ?_
    refine lv_aload_n hx hb d_SS_castAll_27 rfl (lv_at hl 0 rfl) ?_
    refine va_get (D := (dC, dI)) (ci := 0) (v := .ref (a 4)) (C := R_SS) (T := T_SS) (N := 9) hx hb ht in_SS hown hK hP 0 rfl rfl 2 (by decide) (ht _ kw_244) (fun _ h9 => h9) rfl d_SS_castAll_28 ?_
    refine va_get (D := (dC, dI)) (ci := 3) (v := .ref (a 10)) (C := R_Pl) (T := T_Pl) (N := 11) hx hb ht in_Pl hown hK hP 4 rfl rfl 5 (by decide) (ht _ kw_55) (fun _ h9 => h9) rfl d_SS_castAll_31 ?_
    refine zw_ci (va_runV (As := [.ref (a 10)]) (rest := []) ⟨hx, hb, hml, hown, hts⟩ (c_Wa_go l dC dI cI cJ cG cZ a H.size fi_20 fl ai_20 al 10 _ (fun _ _ _ _ => rfl) hw) (cwV 1 hts (zw_goodV kw_440 kw_441 kw_442 kw_7 kw_443) rfl rfl rfl hd_Wa_go ⟨Nat.le_of_ble_eq_true rfl, Nat.le_of_ble_eq_true rfl⟩) (zw_preVw (ci := 6) (q0 := 40) hK hN hP hD rfl rfl) rfl rfl hl.1 rfl (lv_room (Nat.le_of_ble_eq_true rfl)) d_SS_castAll_34 ⟨Nat.le_of_ble_eq_true rfl, Nat.le_of_ble_eq_true rfl⟩) hD hS hA (fun r34 fi_34 fl_34 ai_34 al_34 H locs hw hP hD hS => ?_)
    obtain ⟨rfl, hw⟩ := hw
    refine lv_pop hx hb d_SS_castAll_37 rfl ?_
    refine lv_iconst (v := (0 : Int32)) hx hb d_SS_castAll_38 (by decide) ?_
    refine lv_topi (fun v39 ev39 => ?_)
    have hw := zw_nm_x ev39 hw
    refine lv_istore_n (lv' := [(1, .int v39), (0, .ref (a 0))]) hx hb d_SS_castAll_39 rfl hl (by decide) rfl (fun ls hl => ?_)
    refine (zw_lp2_i (P := fun (x40_1 : Int32) (al40 : Nat → Nat → Int64) => ∀ (H : Heap) (locs : List Loc) (ls : Array Slot), va_P (dC, dI) vwCl (cw cI cJ cG cZ a fi_34 fl ai_34 al40) H → va_D A (cw cI cJ cG cZ a fi_34 fl ai_34 al40) → va_S A s.heap H locs → lv_has ls 2 [(0, .ref (a 0)), (1, .int x40_1)] → W p l e (headSpec ws_SS_castAll ({ frames := 4, cells := 0, slots := 0, locals := 94 })).room s m ([.ref (a 0)] : List Value).toArray below meth c H locs 0 0 (MQ below (va_Qv (fun (u : zw_Z) => (zw_k_fi_ai_alv fl K) u.1 u.2.1 u.2.2.1 u.2.2.2) (fun u t => zw_E (dC, dI) vwCl [(cI, .int), (cJ, .long), (cG, .array .int), (cZ, .boolean)] A (cw cI cJ cG cZ a u.1 u.2.1 u.2.2.1 u.2.2.2) t) A) ([.ref (a 0)] : List Value).toArray s 0 0 A) (F0 m 40 ls [])) hw (fun L40 x40_1 al40 ih40 hw H locs ls hP hD hS hl => ?_)) H locs ls hP hD hS (lv_sub hl [1, 0] rfl)
    refine lv_iload_n hx hb d_SS_castAll_40 rfl (lv_at hl 1 rfl) ?_
    refine lv_aload_n hx hb d_SS_castAll_41 rfl (lv_at hl 0 rfl) ?_
    refine va_get (D := (dC, dI)) (ci := 0) (v := .ref (a 19)) (C := R_SS) (T := T_SS) (N := 9) hx hb ht in_SS hown hK hP 0 rfl rfl 0 (by decide) (ht _ kw_242) (fun _ h9 => h9) rfl d_SS_castAll_42 ?_
    refine va_get (D := (dC, dI)) (ci := 2) (v := .int (fi_34 7)) (C := R_Gi) (T := T_Gi) (N := 7) hx hb ht in_Gi hown hK hP 19 rfl rfl 0 (by decide) (ht _ kw_137) (fun _ h9 => h9) rfl d_SS_castAll_45 ?_
    refine lv_icmp_ge (tgt := 94) hx hb d_SS_castAll_48 (by decide) (fun c48 => ?_) (fun c48 => ?_)
    · have hw := zw_ite_t c48 hw
      exact W.vret hx hb hr (fun t ht hW => ⟨⟨(fi_34, fl, ai_34, al40), rfl, ⟨rfl, hw⟩, by rw [ht]; exact hP, va_K.moved hW.alike hK, hD⟩, hS.F ht⟩) hS.2.2 d_SS_castAll_94
    · have hw := zw_ite_f c48 hw
      refine lv_aload_n hx hb d_SS_castAll_51 rfl (lv_at hl 0 rfl) ?_
      refine va_get (D := (dC, dI)) (ci := 0) (v := .ref (a 18)) (C := R_SS) (T := T_SS) (N := 9) hx hb ht in_SS hown hK hP 0 rfl rfl 7 (by decide) (ht _ kw_249) (fun _ h9 => h9) rfl d_SS_castAll_52 ?_
      refine lv_iload_n hx hb d_SS_castAll_55 rfl (lv_at hl 1 rfl) ?_
      refine lv_aload_n hx hb d_SS_castAll_56 rfl (lv_at hl 0 rfl) ?_
      refine va_get (D := (dC, dI)) (ci := 0) (v := .ref (a 19)) (C := R_SS) (T := T_SS) (N := 9) hx hb ht in_SS hown hK hP 0 rfl rfl 0 (by decide) (ht _ kw_242) (fun _ h9 => h9) rfl d_SS_castAll_57 ?_
      refine va_get (D := (dC, dI)) (ci := 2) (v := .ref (a 21)) (C := R_Gi) (T := T_Gi) (N := 7) hx hb ht in_Gi hown hK hP 19 rfl rfl 2 (by decide) (ht _ kw_142) (fun _ h9 => h9) rfl d_SS_castAll_60 ?_
      refine lv_iload_n hx hb d_SS_castAll_63 rfl (lv_at hl 1 rfl) ?_
      obtain ⟨h64, hw⟩ := hw
      refine va_iald (f := ai_34 21) hx hb hK hP 21 0 rfl rfl h64 d_SS_castAll_64 ?_
      refine lv_i2l hx hb d_SS_castAll_65 rfl ?_
      refine lv_ldc2 (v := (1000000000 : Int64)) hx hb hown (hts (.constantLong R_SS 197 (1000000000 : Int64)) (by decide +kernel)) d_SS_castAll_66 ?_
      refine lv_lmul hx hb d_SS_castAll_69 ?_
      refine lv_aload_n hx hb d_SS_castAll_70 rfl (lv_at hl 0 rfl) ?_
      refine va_get (D := (dC, dI)) (ci := 0) (v := .ref (a 40)) (C := R_SS) (T := T_SS) (N := 9) hx hb ht in_SS hown hK hP 0 rfl rfl 4 (by decide) (ht _ kw_246) (fun _ h9 => h9) rfl d_SS_castAll_71 ?_
      refine va_get (D := (dC, dI)) (ci := 6) (v := .ref (a 41)) (C := R_Wa) (T := T_Wa) (N := 11) hx hb ht in_Wa hown hK hP 40 rfl rfl 3 (by decide) (ht _ kw_180) (fun _ h9 => h9) rfl d_SS_castAll_74 ?_
      refine lv_iload_n hx hb d_SS_castAll_77 rfl (lv_at hl 1 rfl) ?_
      obtain ⟨h78, hw⟩ := hw
      refine va_lald (f := al40 41) hx hb hK hP 41 1 rfl rfl h78 d_SS_castAll_78 ?_
      refine lv_lsub hx hb d_SS_castAll_79 ?_
      refine lv_aload_n hx hb d_SS_castAll_80 rfl (lv_at hl 0 rfl) ?_
      refine va_get (D := (dC, dI)) (ci := 0) (v := .ref (a 17)) (C := R_SS) (T := T_SS) (N := 9) hx hb ht in_SS hown hK hP 0 rfl rfl 6 (by decide) (ht _ kw_248) (fun _ h9 => h9) rfl d_SS_castAll_81 ?_
      refine lv_iload_n hx hb d_SS_castAll_84 rfl (lv_at hl 1 rfl) ?_
      obtain ⟨h85, hw⟩ := hw
      refine va_lald (f := al40 17) hx hb hK hP 17 1 rfl rfl h85 d_SS_castAll_85 ?_
      refine lv_ladd hx hb d_SS_castAll_86 ?_
      obtain ⟨h87, hw⟩ := hw
      refine va_last (f := al40 18) hx hb hK hP hD hS 18 1 rfl rfl h87 d_SS_castAll_87 (fun H locs hP hD hS => ?_)
      have hP := cwpal_18 hP
      have hD := cwdal_18 hD
      obtain ⟨al_87, eal_87⟩ : ∃ z, z = va_up al40 18 (vp_updL (al40 18) x40_1.toNatClampNeg ((((ai_34 21 x40_1.toNatClampNeg).toInt64 * (1000000000 : Int64)) - (al40 41 x40_1.toNatClampNeg)) + (al40 17 x40_1.toNatClampNeg))) := ⟨_, rfl⟩
      rw [← eal_87] at hP hD
      have hw := zw_nm_x eal_87 hw
      obtain ⟨v88, ev88⟩ : ∃ y : Int32, y = x40_1 + (1 : Int32) := ⟨_, rfl⟩
      refine lv_iinc (v := v88) (lv' := [(1, .int v88), (0, .ref (a 0))]) hx hb d_SS_castAll_88 hl (k := 1) rfl (by rw [ev88]; rfl) (by decide) rfl (fun ls hl => ?_)
      have hw := zw_nm_x ev88 hw
      refine lv_goto (tgt := 40) hx hb d_SS_castAll_91 (by decide) ?_
      exact (ih40 v88 al_87 hw) H locs ls hP hD hS (lv_sub hl [1, 0] rfl)
  rw [hH, hlo] at key
  exact key
def SS_walkTo_w (fi : Nat → Int32) (fl : Nat → Int64) (ai : Nat → Nat → Int32) (al : Nat → Nat → Int64) (p0 : Int32) (K : (Nat → Int32) → (Nat → Nat → Int32) → (Nat → Nat → Int64) → Prop) : Prop :=
  vp_in p0 12 ∧ (
  Wa_aim_w fi fl ai al p0 (ai 5 p0.toNatClampNeg) (fun (fi_14 : Nat → Int32) (ai_14 : Nat → Nat → Int32) =>
  Wa_go_w fi_14 fl ai_14 al 10 (fun (r28 : Int32) (fi_28 : Nat → Int32) (ai_28 : Nat → Nat → Int32) (al_28 : Nat → Nat → Int64) =>
  K fi_28 ai_28 al_28)))
theorem d_SS_walkTo_0 : decode b_SS_walkTo 0 = .ok (.aload_n 0, 1) := by decide +kernel
theorem d_SS_walkTo_1 : decode b_SS_walkTo 1 = .ok (.getfield 64, 3) := by decide +kernel
theorem d_SS_walkTo_4 : decode b_SS_walkTo 4 = .ok (.iload_n 1, 1) := by decide +kernel
theorem d_SS_walkTo_5 : decode b_SS_walkTo 5 = .ok (.aload_n 0, 1) := by decide +kernel
theorem d_SS_walkTo_6 : decode b_SS_walkTo 6 = .ok (.getfield 19, 3) := by decide +kernel
theorem d_SS_walkTo_9 : decode b_SS_walkTo 9 = .ok (.getfield 261, 3) := by decide +kernel
theorem d_SS_walkTo_12 : decode b_SS_walkTo 12 = .ok (.iload_n 1, 1) := by decide +kernel
theorem d_SS_walkTo_13 : decode b_SS_walkTo 13 = .ok (.iaload, 1) := by decide +kernel
theorem d_SS_walkTo_14 : decode b_SS_walkTo 14 = .ok (.invokevirtual 251, 3) := by decide +kernel
theorem d_SS_walkTo_17 : decode b_SS_walkTo 17 = .ok (.aload_n 0, 1) := by decide +kernel
theorem d_SS_walkTo_18 : decode b_SS_walkTo 18 = .ok (.getfield 64, 3) := by decide +kernel
theorem d_SS_walkTo_21 : decode b_SS_walkTo 21 = .ok (.aload_n 0, 1) := by decide +kernel
theorem d_SS_walkTo_22 : decode b_SS_walkTo 22 = .ok (.getfield 19, 3) := by decide +kernel
theorem d_SS_walkTo_25 : decode b_SS_walkTo 25 = .ok (.getfield 254, 3) := by decide +kernel
theorem d_SS_walkTo_28 : decode b_SS_walkTo 28 = .ok (.invokevirtual 257, 3) := by decide +kernel
theorem d_SS_walkTo_31 : decode b_SS_walkTo 31 = .ok (.pop, 1) := by decide +kernel
theorem d_SS_walkTo_32 : decode b_SS_walkTo 32 = .ok (.return_, 1) := by decide +kernel
set_option maxHeartbeats 4000000 in
set_option maxRecDepth 100000 in
theorem c_SS_walkTo (l : Launch) (dC : Nat → ClassId) (dI : Nat → Nat → Nat) (cI cJ cG cZ : ClassId) (a : Nat → Nat) (sz : Nat) (fi : Nat → Int32) (fl : Nat → Int64) (ai : Nat → Nat → Int32) (al : Nat → Nat → Int64) (p0 : Int32) (K : (Nat → Int32) → (Nat → Nat → Int32) → (Nat → Nat → Int64) → Prop) (hw : SS_walkTo_w fi fl ai al p0 K) : Met l y_SS_walkTo ws_SS_walkTo ({ frames := 4, cells := 0, slots := 0, locals := 94 }) (va_Pc [.ref (a 0), .int p0] (zw_Bw (dC, dI) vwCl [(cI, .int), (cJ, .long), (cG, .array .int), (cZ, .boolean)] (cw cI cJ cG cZ a fi fl ai al) sz)) (va_Qv (fun (u : zw_Z) => (zw_k_fi_ai_alv fl K) u.1 u.2.1 u.2.2.1 u.2.2.2) (fun u t => zw_E (dC, dI) vwCl [(cI, .int), (cJ, .long), (cG, .array .int), (cZ, .boolean)] (va_A (cw cI cJ cG cZ a fi fl ai al) sz) (cw cI cJ cG cZ a u.1 u.2.1 u.2.2.1 u.2.2.2) t) (va_A (cw cI cJ cG cZ a fi fl ai al) sz)) 0 0 (va_A (cw cI cJ cG cZ a fi fl ai al) sz) := by
  refine Met.ofW (cc := b_SS_walkTo) (maxL := 2) (ret := (Option.none : Option FieldType)) (by decide) rfl ?_
  intro p e s m args below meth c s₁ B hml hv
  obtain ⟨rfl, hsz, hP, hK, hD0, hN⟩ := hv
  have hx := B.exec
  have hb := B.bytes
  have hr := B.returns
  have hts := atoms_spec (ws := ws_SS_walkTo) B.pre
  have ht : ∀ w ∈ zw_tbl, w.before _ s = true := fun w h => hts w (List.mem_cons_of_mem _ h)
  have hown : s.vm.findClass R_SS = some m.cls := findClass_of_methodNamed B.named
  have hlocks := B.notSynchronized
  subst hsz
  have hD := hD0.self (sz := s.heap.size)
  generalize hAe : va_A (cw cI cJ cG cZ a fi fl ai al) s.heap.size = A at hD ⊢
  have hA : ∀ q : Nat, s.heap.size ≤ q → A q := fun q h => by rw [← hAe]; exact Or.inr h
  have hS : va_S A s.heap s.heap [] := va_S.rf
  have hl := lv_entry ([.ref (a 0), .int p0] : List Value) (n := 2) (Nat.le_of_ble_eq_true rfl)
  rw [lg_entry_eq]
  generalize (lg_sl ([.ref (a 0), .int p0] : List Value) ++ List.replicate (2 - (lg_sl ([.ref (a 0), .int p0] : List Value)).length) Slot.unset).toArray = ls at hl ⊢
  have hl : lv_has ls 2 [(0, .ref (a 0)), (1, .int p0)] := hl
  unfold SS_walkTo_w at hw
  obtain ⟨H, hH⟩ : ∃ H, H = s.heap := ⟨_, rfl⟩
  obtain ⟨locs, hlo⟩ : ∃ q : List Loc, q = [] := ⟨_, rfl⟩
  have hP : va_P (dC, dI) vwCl (cw cI cJ cG cZ a fi fl ai al) H := by rw [hH]; exact hP
  have hS : va_S A s.heap H locs := by rw [hH, hlo]; exact hS
  have key : W p l e (headSpec ws_SS_walkTo ({ frames := 4, cells := 0, slots := 0, locals := 94 })).room s m ([.ref (a 0), .int p0] : List Value).toArray below meth c H locs 0 0 (MQ below (va_Qv (fun (u : zw_Z) => (zw_k_fi_ai_alv fl K) u.1 u.2.1 u.2.2.1 u.2.2.2) (fun u t => zw_E (dC, dI) vwCl [(cI, .int), (cJ, .long), (cG, .array .int), (cZ, .boolean)] A (cw cI cJ cG cZ a u.1 u.2.1 u.2.2.1 u.2.2.2) t) A) ([.ref (a 0), .int p0] : List Value).toArray s 0 0 A) (F0 m 0 ls []) := by
    refine lv_aload_n hx hb d_SS_walkTo_0 rfl (lv_at hl 0 rfl) ?_
    refine va_get (D := (dC, dI)) (ci := 0) (v := .ref (a 40)) (C := R_SS) (T := T_SS) (N := 9) hx hb ht in_SS hown hK hP 0 rfl rfl 4 (by decide) (ht _ kw_246) (fun _ h9 => h9) rfl d_SS_walkTo_1 ?_
    refine lv_iload_n hx hb d_SS_walkTo_4 rfl (lv_at hl 1 rfl) ?_
    refine lv_aload_n hx hb d_SS_walkTo_5 rfl (lv_at hl 0 rfl) ?_
    refine va_get (D := (dC, dI)) (ci := 0) (v := .ref (a 4)) (C := R_SS) (T := T_SS) (N := 9) hx hb ht in_SS hown hK hP 0 rfl rfl 2 (by decide) (ht _ kw_244) (fun _ h9 => h9) rfl d_SS_walkTo_6 ?_
    refine va_get (D := (dC, dI)) (ci := 3) (v := .ref (a 5)) (C := R_Pl) (T := T_Pl) (N := 11) hx hb ht in_Pl hown hK hP 4 rfl rfl 0 (by decide) (ht _ kw_45) (fun _ h9 => h9) rfl d_SS_walkTo_9 ?_
    refine lv_iload_n hx hb d_SS_walkTo_12 rfl (lv_at hl 1 rfl) ?_
    obtain ⟨h13, hw⟩ := hw
    refine va_iald (f := ai 5) hx hb hK hP 5 0 rfl rfl h13 d_SS_walkTo_13 ?_
    refine zw_cv (va_runV (As := [.int p0, .int (ai 5 p0.toNatClampNeg)]) (rest := []) ⟨hx, hb, hml, hown, hts⟩ (c_Wa_aim l dC dI cI cJ cG cZ a H.size fi fl ai al p0 (ai 5 p0.toNatClampNeg) _ hw) (cwV 2 hts (zw_goodV kw_432 kw_433 kw_434 kw_7 kw_435) rfl rfl rfl hd_Wa_aim ⟨Nat.le_of_ble_eq_true rfl, Nat.le_of_ble_eq_true rfl⟩) (zw_preVw (ci := 6) (q0 := 40) hK hN hP hD rfl rfl) rfl rfl hl.1 rfl (lv_room (Nat.le_of_ble_eq_true rfl)) d_SS_walkTo_14 ⟨Nat.le_of_ble_eq_true rfl, Nat.le_of_ble_eq_true rfl⟩) hD hS hA (fun fi_14 fl_14 ai_14 al_14 H locs hw hP hD hS => ?_)
    obtain ⟨rfl, rfl, hw⟩ := hw
    refine lv_aload_n hx hb d_SS_walkTo_17 rfl (lv_at hl 0 rfl) ?_
    refine va_get (D := (dC, dI)) (ci := 0) (v := .ref (a 40)) (C := R_SS) (T := T_SS) (N := 9) hx hb ht in_SS hown hK hP 0 rfl rfl 4 (by decide) (ht _ kw_246) (fun _ h9 => h9) rfl d_SS_walkTo_18 ?_
    refine lv_aload_n hx hb d_SS_walkTo_21 rfl (lv_at hl 0 rfl) ?_
    refine va_get (D := (dC, dI)) (ci := 0) (v := .ref (a 4)) (C := R_SS) (T := T_SS) (N := 9) hx hb ht in_SS hown hK hP 0 rfl rfl 2 (by decide) (ht _ kw_244) (fun _ h9 => h9) rfl d_SS_walkTo_22 ?_
    refine va_get (D := (dC, dI)) (ci := 3) (v := .ref (a 10)) (C := R_Pl) (T := T_Pl) (N := 11) hx hb ht in_Pl hown hK hP 4 rfl rfl 5 (by decide) (ht _ kw_55) (fun _ h9 => h9) rfl d_SS_walkTo_25 ?_
    refine zw_ci (va_runV (As := [.ref (a 10)]) (rest := []) ⟨hx, hb, hml, hown, hts⟩ (c_Wa_go l dC dI cI cJ cG cZ a H.size fi_14 fl ai_14 al 10 _ (fun _ _ _ _ => rfl) hw) (cwV 1 hts (zw_goodV kw_440 kw_441 kw_442 kw_7 kw_443) rfl rfl rfl hd_Wa_go ⟨Nat.le_of_ble_eq_true rfl, Nat.le_of_ble_eq_true rfl⟩) (zw_preVw (ci := 6) (q0 := 40) hK hN hP hD rfl rfl) rfl rfl hl.1 rfl (lv_room (Nat.le_of_ble_eq_true rfl)) d_SS_walkTo_28 ⟨Nat.le_of_ble_eq_true rfl, Nat.le_of_ble_eq_true rfl⟩) hD hS hA (fun r28 fi_28 fl_28 ai_28 al_28 H locs hw hP hD hS => ?_)
    obtain ⟨rfl, hw⟩ := hw
    refine lv_pop hx hb d_SS_walkTo_31 rfl ?_
    exact W.vret hx hb hr (fun t ht hW => ⟨⟨(fi_28, fl, ai_28, al_28), rfl, ⟨rfl, hw⟩, by rw [ht]; exact hP, va_K.moved hW.alike hK, hD⟩, hS.F ht⟩) hS.2.2 d_SS_walkTo_32
  rw [hH, hlo] at key
  exact key
def SS_heightNow_w (fi : Nat → Int32) (fl : Nat → Int64) (ai : Nat → Nat → Int32) (al : Nat → Nat → Int64) (p0 : Int32) (K : Int64 → Prop) : Prop :=
  vp_in p0 6 ∧ (
  vp_in p0 6 ∧ (
  K ((al 18 p0.toNatClampNeg) + (al 41 p0.toNatClampNeg))))
theorem d_SS_heightNow_0 : decode b_SS_heightNow 0 = .ok (.aload_n 0, 1) := by decide +kernel
theorem d_SS_heightNow_1 : decode b_SS_heightNow 1 = .ok (.getfield 34, 3) := by decide +kernel
theorem d_SS_heightNow_4 : decode b_SS_heightNow 4 = .ok (.iload_n 1, 1) := by decide +kernel
theorem d_SS_heightNow_5 : decode b_SS_heightNow 5 = .ok (.laload, 1) := by decide +kernel
theorem d_SS_heightNow_6 : decode b_SS_heightNow 6 = .ok (.aload_n 0, 1) := by decide +kernel
theorem d_SS_heightNow_7 : decode b_SS_heightNow 7 = .ok (.getfield 64, 3) := by decide +kernel
theorem d_SS_heightNow_10 : decode b_SS_heightNow 10 = .ok (.getfield 180, 3) := by decide +kernel
theorem d_SS_heightNow_13 : decode b_SS_heightNow 13 = .ok (.iload_n 1, 1) := by decide +kernel
theorem d_SS_heightNow_14 : decode b_SS_heightNow 14 = .ok (.laload, 1) := by decide +kernel
theorem d_SS_heightNow_15 : decode b_SS_heightNow 15 = .ok (.ladd, 1) := by decide +kernel
theorem d_SS_heightNow_16 : decode b_SS_heightNow 16 = .ok (.lreturn, 1) := by decide +kernel
set_option maxHeartbeats 4000000 in
set_option maxRecDepth 100000 in
theorem c_SS_heightNow (l : Launch) (dC : Nat → ClassId) (dI : Nat → Nat → Nat) (cI cJ cG cZ : ClassId) (a : Nat → Nat) (fi : Nat → Int32) (fl : Nat → Int64) (ai : Nat → Nat → Int32) (al : Nat → Nat → Int64) (p0 : Int32) (K : Int64 → Prop) (hw : SS_heightNow_w fi fl ai al p0 K) : Met l y_SS_heightNow ws_SS_heightNow ({ frames := 0, cells := 0, slots := 0, locals := 0 }) (va_Pc [.ref (a 0), .int p0] (zw_B (dC, dI) vwCl [(cI, .int), (cJ, .long), (cG, .array .int), (cZ, .boolean)] (cw cI cJ cG cZ a fi fl ai al))) (vp_Sl K) 0 0 (fun _ => False) := by
  refine Met.ofW (cc := b_SS_heightNow) (maxL := 2) (ret := (Option.some FieldType.long)) (by decide) rfl ?_
  intro p e s m args below meth c s₁ B hml hv
  obtain ⟨rfl, hP, hK, hN⟩ := hv
  have hx := B.exec
  have hb := B.bytes
  have hr := B.returns
  have hts := atoms_spec (ws := ws_SS_heightNow) B.pre
  have ht : ∀ w ∈ zw_tbl, w.before _ s = true := fun w h => hts w (List.mem_cons_of_mem _ h)
  have hown : s.vm.findClass R_SS = some m.cls := findClass_of_methodNamed B.named
  have hlocks := B.notSynchronized
  have hl := lv_entry ([.ref (a 0), .int p0] : List Value) (n := 2) (Nat.le_of_ble_eq_true rfl)
  rw [lg_entry_eq]
  generalize (lg_sl ([.ref (a 0), .int p0] : List Value) ++ List.replicate (2 - (lg_sl ([.ref (a 0), .int p0] : List Value)).length) Slot.unset).toArray = ls at hl ⊢
  have hl : lv_has ls 2 [(0, .ref (a 0)), (1, .int p0)] := hl
  unfold SS_heightNow_w at hw
  refine lv_aload_n hx hb d_SS_heightNow_0 rfl (lv_at hl 0 rfl) ?_
  refine va_get (D := (dC, dI)) (ci := 0) (v := .ref (a 18)) (C := R_SS) (T := T_SS) (N := 9) hx hb ht in_SS hown hK hP 0 rfl rfl 7 (by decide) (ht _ kw_249) (fun _ h9 => h9) rfl d_SS_heightNow_1 ?_
  refine lv_iload_n hx hb d_SS_heightNow_4 rfl (lv_at hl 1 rfl) ?_
  obtain ⟨h5, hw⟩ := hw
  refine va_lald (f := al 18) hx hb hK hP 18 1 rfl rfl h5 d_SS_heightNow_5 ?_
  refine lv_aload_n hx hb d_SS_heightNow_6 rfl (lv_at hl 0 rfl) ?_
  refine va_get (D := (dC, dI)) (ci := 0) (v := .ref (a 40)) (C := R_SS) (T := T_SS) (N := 9) hx hb ht in_SS hown hK hP 0 rfl rfl 4 (by decide) (ht _ kw_246) (fun _ h9 => h9) rfl d_SS_heightNow_7 ?_
  refine va_get (D := (dC, dI)) (ci := 6) (v := .ref (a 41)) (C := R_Wa) (T := T_Wa) (N := 11) hx hb ht in_Wa hown hK hP 40 rfl rfl 3 (by decide) (ht _ kw_180) (fun _ h9 => h9) rfl d_SS_heightNow_10 ?_
  refine lv_iload_n hx hb d_SS_heightNow_13 rfl (lv_at hl 1 rfl) ?_
  obtain ⟨h14, hw⟩ := hw
  refine va_lald (f := al 41) hx hb hK hP 41 1 rfl rfl h14 d_SS_heightNow_14 ?_
  refine lv_ladd hx hb d_SS_heightNow_15 ?_
  exact W.lret (v := ((al 18 p0.toNatClampNeg) + (al 41 p0.toNatClampNeg))) hx hb hr (fun t ht hW => ⟨((al 18 p0.toNatClampNeg) + (al 41 p0.toNatClampNeg)), rfl, hw, ht⟩) t_nil d_SS_heightNow_16
