theorem d_Arr_fill_i_0 : decode b_Arr_fill_i 0 = .ok (.iconst 0, 1) := by decide +kernel
theorem d_Arr_fill_i_1 : decode b_Arr_fill_i 1 = .ok (.istore_n 2, 1) := by decide +kernel
theorem d_Arr_fill_i_2 : decode b_Arr_fill_i 2 = .ok (.aload_n 0, 1) := by decide +kernel
theorem d_Arr_fill_i_3 : decode b_Arr_fill_i 3 = .ok (.arraylength, 1) := by decide +kernel
theorem d_Arr_fill_i_4 : decode b_Arr_fill_i 4 = .ok (.istore_n 3, 1) := by decide +kernel
theorem d_Arr_fill_i_5 : decode b_Arr_fill_i 5 = .ok (.iload_n 2, 1) := by decide +kernel
theorem d_Arr_fill_i_6 : decode b_Arr_fill_i 6 = .ok (.iload_n 3, 1) := by decide +kernel
theorem d_Arr_fill_i_7 : decode b_Arr_fill_i 7 = .ok (.if_icmp .ge (13), 3) := by decide +kernel
theorem d_Arr_fill_i_10 : decode b_Arr_fill_i 10 = .ok (.aload_n 0, 1) := by decide +kernel
theorem d_Arr_fill_i_11 : decode b_Arr_fill_i 11 = .ok (.iload_n 2, 1) := by decide +kernel
theorem d_Arr_fill_i_12 : decode b_Arr_fill_i 12 = .ok (.iload_n 1, 1) := by decide +kernel
theorem d_Arr_fill_i_13 : decode b_Arr_fill_i 13 = .ok (.iastore, 1) := by decide +kernel
theorem d_Arr_fill_i_14 : decode b_Arr_fill_i 14 = .ok (.iinc 2 (1), 3) := by decide +kernel
theorem d_Arr_fill_i_17 : decode b_Arr_fill_i 17 = .ok (.goto (-12), 3) := by decide +kernel
theorem d_Arr_fill_i_20 : decode b_Arr_fill_i 20 = .ok (.return_, 1) := by decide +kernel
theorem d_Arr_fill_l_0 : decode b_Arr_fill_l 0 = .ok (.iconst 0, 1) := by decide +kernel
theorem d_Arr_fill_l_1 : decode b_Arr_fill_l 1 = .ok (.istore_n 3, 1) := by decide +kernel
theorem d_Arr_fill_l_2 : decode b_Arr_fill_l 2 = .ok (.aload_n 0, 1) := by decide +kernel
theorem d_Arr_fill_l_3 : decode b_Arr_fill_l 3 = .ok (.arraylength, 1) := by decide +kernel
theorem d_Arr_fill_l_4 : decode b_Arr_fill_l 4 = .ok (.istore 4, 2) := by decide +kernel
theorem d_Arr_fill_l_6 : decode b_Arr_fill_l 6 = .ok (.iload_n 3, 1) := by decide +kernel
theorem d_Arr_fill_l_7 : decode b_Arr_fill_l 7 = .ok (.iload 4, 2) := by decide +kernel
theorem d_Arr_fill_l_9 : decode b_Arr_fill_l 9 = .ok (.if_icmp .ge (13), 3) := by decide +kernel
theorem d_Arr_fill_l_12 : decode b_Arr_fill_l 12 = .ok (.aload_n 0, 1) := by decide +kernel
theorem d_Arr_fill_l_13 : decode b_Arr_fill_l 13 = .ok (.iload_n 3, 1) := by decide +kernel
theorem d_Arr_fill_l_14 : decode b_Arr_fill_l 14 = .ok (.lload_n 1, 1) := by decide +kernel
theorem d_Arr_fill_l_15 : decode b_Arr_fill_l 15 = .ok (.lastore, 1) := by decide +kernel
theorem d_Arr_fill_l_16 : decode b_Arr_fill_l 16 = .ok (.iinc 3 (1), 3) := by decide +kernel
theorem d_Arr_fill_l_19 : decode b_Arr_fill_l 19 = .ok (.goto (-13), 3) := by decide +kernel
theorem d_Arr_fill_l_22 : decode b_Arr_fill_l 22 = .ok (.return_, 1) := by decide +kernel
/-! java.util.Arrays.fill, over any world -/
def zw_fill {α : Type} (n : Nat) (f : Nat → α) (v : α) : Nat → α := fun j => if j < n then v else f j
theorem zw_fill_0 {α : Type} (f : Nat → α) (v : α) : zw_fill 0 f v = f := funext fun j => if_neg (Nat.not_lt_zero j)
theorem zw_fill_s (n : Nat) (f : Nat → Int32) (v : Int32) : upd (zw_fill n f v) n v = zw_fill (n + 1) f v := funext fun j => by
  unfold upd zw_fill
  by_cases h : j = n
  · subst h; simp
  · by_cases h2 : j < n
    · simp [h, h2, Nat.lt_succ_of_lt h2]
    · simp [h, h2, show ¬ j < n + 1 by omega]
theorem zw_fill_sl (n : Nat) (f : Nat → Int64) (v : Int64) : vp_updL (zw_fill n f v) n v = zw_fill (n + 1) f v := funext fun j => by
  unfold vp_updL zw_fill
  by_cases h : j = n
  · subst h; simp
  · by_cases h2 : j < n
    · simp [h, h2, Nat.lt_succ_of_lt h2]
    · simp [h, h2, show ¬ j < n + 1 by omega]
theorem zw_set_self {ws : va_W} {q0 : Nat} {x : Nat × va_E} (h : ws[q0]? = some x) : ws.set q0 x = ws := by
  apply List.ext_getElem?
  intro i
  rw [List.getElem?_set]
  by_cases e : q0 = i
  · subst e
    have : q0 < ws.length := (List.getElem?_eq_some_iff.mp h).1
    rw [if_pos rfl, if_pos this, h]
  · rw [if_neg e]
theorem zw_set_at {ws : va_W} {q0 : Nat} {x y : Nat × va_E} (h : ws[q0]? = some x) : (ws.set q0 y)[q0]? = some y := by
  have : q0 < ws.length := (List.getElem?_eq_some_iff.mp h).1
  rw [List.getElem?_set]
  simp [this]
theorem zw_set_set {ws : va_W} {q0 : Nat} {x y : Nat × va_E} : (ws.set q0 x).set q0 y = ws.set q0 y := by simp
set_option maxHeartbeats 4000000 in
set_option maxRecDepth 100000 in
theorem c_Arr_fill_i (l : Launch) {D : va_G} {cl : List vw_C} {tys : List (ClassId × FieldType)} {ws0 : va_W} (q0 t0 : Nat) {o n : Nat} {cA : ClassId} {f : Nat → Int32} (v : Int32) (sz : Nat) (ha : ws0[q0]? = some (o, .inl (cA, n, .inl f))) (htt : tys[t0]? = some (cA, .int)) (hn : n < 2 ^ 31) : Met l y_Arr_fill_i ws_Arr_fill_i ({ frames := 0, cells := 0, slots := 0, locals := 0 }) (va_Pc [.ref o, .int v] (zw_Bw D cl tys ws0 sz)) (va_Qv (fun _ : Unit => True) (fun _ t => zw_E D cl tys (va_A ws0 sz) (ws0.set q0 (o, .inl (cA, n, .inl (zw_fill n f v)))) t) (va_A ws0 sz)) 0 0 (va_A ws0 sz) := by
  refine Met.ofW (cc := b_Arr_fill_i) (maxL := 4) (ret := Option.none) (by decide) rfl ?_
  intro p e s m args below meth c s₁ B hml hv
  obtain ⟨rfl, hsz, hP, hK, hD0, -⟩ := hv
  have hx := B.exec
  have hb := B.bytes
  have hr := B.returns
  have hlocks := B.notSynchronized
  subst hsz
  have hD := hD0.self (sz := s.heap.size)
  generalize hAe : va_A ws0 s.heap.size = A at hD ⊢
  have hS : va_S A s.heap s.heap [] := va_S.rf
  have hl := lv_entry ([.ref o, .int v] : List Value) (n := 4) (Nat.le_of_ble_eq_true rfl)
  rw [lg_entry_eq]
  generalize (lg_sl ([.ref o, .int v] : List Value) ++ List.replicate (4 - (lg_sl ([.ref o, .int v] : List Value)).length) Slot.unset).toArray = ls at hl ⊢
  have hl : lv_has ls 4 [(0, .ref o), (1, .int v)] := hl
  refine lv_iconst (v := (0 : Int32)) hx hb d_Arr_fill_i_0 (by decide) ?_
  refine lv_istore_n (lv' := [(2, .int (0 : Int32)), (0, .ref o), (1, .int v)]) hx hb d_Arr_fill_i_1 rfl hl (by decide) rfl (fun ls hl => ?_)
  refine lv_aload_n hx hb d_Arr_fill_i_2 rfl (lv_at hl 1 rfl) ?_
  refine va_alen hx hb hK hP q0 t0 ha htt rfl d_Arr_fill_i_3 ?_
  refine lv_istore_n (lv' := [(3, .int (nI n)), (2, .int (0 : Int32)), (0, .ref o), (1, .int v)]) hx hb d_Arr_fill_i_4 rfl hl (by decide) rfl (fun ls hl => ?_)
  have loop : ∀ (k i : Nat), n - i < k → i ≤ n → ∀ (H : Heap) (locs : List Loc) (ls : Array Slot), va_P D cl (ws0.set q0 (o, .inl (cA, n, .inl (zw_fill i f v)))) H → va_D A (ws0.set q0 (o, .inl (cA, n, .inl (zw_fill i f v)))) → va_S A s.heap H locs → lv_has ls 4 [(3, .int (nI n)), (2, .int (nI i)), (0, .ref o), (1, .int v)] → W p l e (headSpec ws_Arr_fill_i ({ frames := 0, cells := 0, slots := 0, locals := 0 })).room s m ([.ref o, .int v] : List Value).toArray below meth c H locs 0 0 (MQ below (va_Qv (fun _ : Unit => True) (fun _ t => zw_E D cl tys A (ws0.set q0 (o, .inl (cA, n, .inl (zw_fill n f v)))) t) A) ([.ref o, .int v] : List Value).toArray s 0 0 A) (F0 m 5 ls []) := by
    intro k
    induction k with
    | zero => intro i h; omega
    | succ k ih =>
      intro i hk hi H locs ls hP hD hS hl
      refine lv_iload_n hx hb d_Arr_fill_i_5 rfl (lv_at hl 1 rfl) ?_
      refine lv_iload_n hx hb d_Arr_fill_i_6 rfl (lv_at hl 0 rfl) ?_
      refine lv_icmp_ge (tgt := 20) hx hb d_Arr_fill_i_7 (by decide) (fun c7 => ?_) (fun c7 => ?_)
      · have e : i = n := by
          have := (nI_leI hn (by omega)).mp c7
          omega
        subst e
        exact W.vret hx hb hr (fun t ht hW => ⟨⟨(), rfl, trivial, by rw [ht]; exact hP, va_K.moved hW.alike hK, hD⟩, hS.F ht⟩) hS.2.2 d_Arr_fill_i_20
      · have hlt : i < n := by
          rcases Nat.lt_or_ge i n with q | q
          · exact q
          · exact absurd (nI_le q (by omega)) c7
        refine lv_aload_n hx hb d_Arr_fill_i_10 rfl (lv_at hl 2 rfl) ?_
        refine lv_iload_n hx hb d_Arr_fill_i_11 rfl (lv_at hl 1 rfl) ?_
        refine lv_iload_n hx hb d_Arr_fill_i_12 rfl (lv_at hl 3 rfl) ?_
        refine va_iast hx hb hK hP hD hS q0 t0 (zw_set_at ha) htt (vp_in_nI hlt hn) d_Arr_fill_i_13 (fun H locs hP hD hS => ?_)
        rw [nI_clamp (by omega), zw_fill_s, zw_set_set] at hP hD
        refine lv_iinc (v := nI (i + 1)) (lv' := [(2, .int (nI (i + 1))), (3, .int (nI n)), (0, .ref o), (1, .int v)]) hx hb d_Arr_fill_i_14 hl (k := 1) rfl (by rw [← nI_1]; rfl) (by decide) rfl (fun ls hl => ?_)
        refine lv_goto (tgt := 5) hx hb d_Arr_fill_i_17 (by decide) ?_
        exact ih (i + 1) (by omega) (by omega) H locs ls hP hD hS (lv_sub hl [1, 0, 2, 3] rfl)
  have hz : ws0.set q0 (o, .inl (cA, n, .inl (zw_fill 0 f v))) = ws0 := by rw [zw_fill_0]; exact zw_set_self ha
  exact loop (n + 1) 0 (by omega) (Nat.zero_le _) _ _ ls (by rw [hz]; exact hP) (by rw [hz]; exact hD) hS hl
set_option maxHeartbeats 4000000 in
set_option maxRecDepth 100000 in
theorem c_Arr_fill_l (l : Launch) {D : va_G} {cl : List vw_C} {tys : List (ClassId × FieldType)} {ws0 : va_W} (q0 t0 : Nat) {o n : Nat} {cA : ClassId} {f : Nat → Int64} (v : Int64) (sz : Nat) (ha : ws0[q0]? = some (o, .inl (cA, n, .inr (.inl f)))) (htt : tys[t0]? = some (cA, .long)) (hn : n < 2 ^ 31) : Met l y_Arr_fill_l ws_Arr_fill_l ({ frames := 0, cells := 0, slots := 0, locals := 0 }) (va_Pc [.ref o, .long v] (zw_Bw D cl tys ws0 sz)) (va_Qv (fun _ : Unit => True) (fun _ t => zw_E D cl tys (va_A ws0 sz) (ws0.set q0 (o, .inl (cA, n, .inr (.inl (zw_fill n f v))))) t) (va_A ws0 sz)) 0 0 (va_A ws0 sz) := by
  refine Met.ofW (cc := b_Arr_fill_l) (maxL := 5) (ret := Option.none) (by decide) rfl ?_
  intro p e s m args below meth c s₁ B hml hv
  obtain ⟨rfl, hsz, hP, hK, hD0, -⟩ := hv
  have hx := B.exec
  have hb := B.bytes
  have hr := B.returns
  have hlocks := B.notSynchronized
  subst hsz
  have hD := hD0.self (sz := s.heap.size)
  generalize hAe : va_A ws0 s.heap.size = A at hD ⊢
  have hS : va_S A s.heap s.heap [] := va_S.rf
  have hl := lv_entry ([.ref o, .long v] : List Value) (n := 5) (Nat.le_of_ble_eq_true rfl)
  rw [lg_entry_eq]
  generalize (lg_sl ([.ref o, .long v] : List Value) ++ List.replicate (5 - (lg_sl ([.ref o, .long v] : List Value)).length) Slot.unset).toArray = ls at hl ⊢
  have hl : lv_has ls 5 [(0, .ref o), (1, .long v)] := hl
  refine lv_iconst (v := (0 : Int32)) hx hb d_Arr_fill_l_0 (by decide) ?_
  refine lv_istore_n (lv' := [(3, .int (0 : Int32)), (0, .ref o), (1, .long v)]) hx hb d_Arr_fill_l_1 rfl hl (by decide) rfl (fun ls hl => ?_)
  refine lv_aload_n hx hb d_Arr_fill_l_2 rfl (lv_at hl 1 rfl) ?_
  refine va_alen hx hb hK hP q0 t0 ha htt rfl d_Arr_fill_l_3 ?_
  refine lv_istore (lv' := [(4, .int (nI n)), (3, .int (0 : Int32)), (0, .ref o), (1, .long v)]) hx hb d_Arr_fill_l_4 hl (by decide) rfl (fun ls hl => ?_)
  have loop : ∀ (k i : Nat), n - i < k → i ≤ n → ∀ (H : Heap) (locs : List Loc) (ls : Array Slot), va_P D cl (ws0.set q0 (o, .inl (cA, n, .inr (.inl (zw_fill i f v))))) H → va_D A (ws0.set q0 (o, .inl (cA, n, .inr (.inl (zw_fill i f v))))) → va_S A s.heap H locs → lv_has ls 5 [(4, .int (nI n)), (3, .int (nI i)), (0, .ref o), (1, .long v)] → W p l e (headSpec ws_Arr_fill_l ({ frames := 0, cells := 0, slots := 0, locals := 0 })).room s m ([.ref o, .long v] : List Value).toArray below meth c H locs 0 0 (MQ below (va_Qv (fun _ : Unit => True) (fun _ t => zw_E D cl tys A (ws0.set q0 (o, .inl (cA, n, .inr (.inl (zw_fill n f v))))) t) A) ([.ref o, .long v] : List Value).toArray s 0 0 A) (F0 m 6 ls []) := by
    intro k
    induction k with
    | zero => intro i h; omega
    | succ k ih =>
      intro i hk hi H locs ls hP hD hS hl
      refine lv_iload_n hx hb d_Arr_fill_l_6 rfl (lv_at hl 1 rfl) ?_
      refine lv_iload hx hb d_Arr_fill_l_7 (lv_at hl 0 rfl) ?_
      refine lv_icmp_ge (tgt := 22) hx hb d_Arr_fill_l_9 (by decide) (fun c7 => ?_) (fun c7 => ?_)
      · have e : i = n := by
          have := (nI_leI hn (by omega)).mp c7
          omega
        subst e
        exact W.vret hx hb hr (fun t ht hW => ⟨⟨(), rfl, trivial, by rw [ht]; exact hP, va_K.moved hW.alike hK, hD⟩, hS.F ht⟩) hS.2.2 d_Arr_fill_l_22
      · have hlt : i < n := by
          rcases Nat.lt_or_ge i n with q | q
          · exact q
          · exact absurd (nI_le q (by omega)) c7
        refine lv_aload_n hx hb d_Arr_fill_l_12 rfl (lv_at hl 2 rfl) ?_
        refine lv_iload_n hx hb d_Arr_fill_l_13 rfl (lv_at hl 1 rfl) ?_
        refine lv_lload_n hx hb d_Arr_fill_l_14 rfl (lv_at hl 3 rfl) ?_
        refine va_last hx hb hK hP hD hS q0 t0 (zw_set_at ha) htt (vp_in_nI hlt hn) d_Arr_fill_l_15 (fun H locs hP hD hS => ?_)
        rw [nI_clamp (by omega), zw_fill_sl, zw_set_set] at hP hD
        refine lv_iinc (v := nI (i + 1)) (lv' := [(3, .int (nI (i + 1))), (4, .int (nI n)), (0, .ref o), (1, .long v)]) hx hb d_Arr_fill_l_16 hl (k := 1) rfl (by rw [← nI_1]; rfl) (by decide) rfl (fun ls hl => ?_)
        refine lv_goto (tgt := 6) hx hb d_Arr_fill_l_19 (by decide) ?_
        exact ih (i + 1) (by omega) (by omega) H locs ls hP hD hS (lv_sub hl [1, 0, 2, 3] rfl)
  have hz : ws0.set q0 (o, .inl (cA, n, .inr (.inl (zw_fill 0 f v)))) = ws0 := by rw [zw_fill_0]; exact zw_set_self ha
  exact loop (n + 1) 0 (by omega) (Nat.zero_le _) _ _ ls (by rw [hz]; exact hP) (by rw [hz]; exact hD) hS hl
section ZWF
variable {p : Program} {l : Launch} {e : Env} {R : Room} {s : State} {m : MethodId} {args : Array Value} {below : List Frame} {meth : Method} {c : Code} {H : Heap} {locs : List Loc} {cells slots : Nat} {Q : State → Prop}
variable {cc : ByteArray} {pc nL index : Nat} {ls : Array Slot} {rest : List Value} {A : Nat → Prop} {H0 : Heap} {D : va_G} {cl : List vw_C} {tys : List (ClassId × FieldType)} {w0 : va_W} {Ts : List Cond} {own : String}
theorem zw_filli (S : CallFix p m c cc nL s args Ts own) (cw : CallB R s args own index y_Arr_fill_i b_Arr_fill_i 4 none ws_Arr_fill_i ({ frames := 0, cells := 0, slots := 0, locals := 0 }) 0 0 2 ∧ (Cond.static y_Arr_fill_i).before args s = true) (hK : va_K D cl tys s) (hN : zw_N s) (hP : va_P D cl w0 H) (hD : va_D A w0) (hS : va_S A H0 H locs) (hA : ∀ q, H0.size ≤ q → A q) (q0 t0 : Nat) {o n : Nat} {cA : ClassId} {f : Nat → Int32} {v : Int32} (ha : w0[q0]? = some (o, .inl (cA, n, .inl f))) (htt : tys[t0]? = some (cA, .int)) (hn : n < 2 ^ 31) (hsize : ls.size = nL) (hW : 2 * (F0 m pc ls (.int v :: .ref o :: rest)).monitorRoom + (rest.map fun v => v.category).sum ≤ 8) (hdg : decode cc pc = .ok (.invokestatic index, 3)) (hf : cells + 0 ≤ R.cells ∧ slots + 0 ≤ R.slots)
    (kk : ∀ (H1 : Heap) (locs1 : List Loc), va_P D cl (w0.set q0 (o, .inl (cA, n, .inl (zw_fill n f v)))) H1 → va_D A (w0.set q0 (o, .inl (cA, n, .inl (zw_fill n f v)))) → va_S A H0 H1 locs1 → W p l e R s m args below meth c H1 locs1 cells slots Q (F0 m (pc + 3) ls rest)) : W p l e R s m args below meth c H locs cells slots Q (F0 m pc ls (.int v :: .ref o :: rest)) := by
  have hF := zw_free hD hS hA
  refine va_callv (va_runS (As := [.ref o, .int v]) (rest := rest) S (c_Arr_fill_i l q0 t0 v H.size ha htt hn) cw (zw_preSw hK hN hP hD) rfl rfl hsize rfl hW hdg hf) hS (fun q _ h => hF q h) hF (fun u t H1 locs1 ht hvm hw hB hz hk hS1 => ?_)
  obtain ⟨hP1, hK1, hD1⟩ := hB
  rw [ht] at hP1
  exact kk H1 locs1 hP1 (hD1.weaken (fun k q _ h => hF q.1 h)) hS1
theorem zw_filll (S : CallFix p m c cc nL s args Ts own) (cw : CallB R s args own index y_Arr_fill_l b_Arr_fill_l 5 none ws_Arr_fill_l ({ frames := 0, cells := 0, slots := 0, locals := 0 }) 0 0 2 ∧ (Cond.static y_Arr_fill_l).before args s = true) (hK : va_K D cl tys s) (hN : zw_N s) (hP : va_P D cl w0 H) (hD : va_D A w0) (hS : va_S A H0 H locs) (hA : ∀ q, H0.size ≤ q → A q) (q0 t0 : Nat) {o n : Nat} {cA : ClassId} {f : Nat → Int64} {v : Int64} (ha : w0[q0]? = some (o, .inl (cA, n, .inr (.inl f)))) (htt : tys[t0]? = some (cA, .long)) (hn : n < 2 ^ 31) (hsize : ls.size = nL) (hW : 2 * (F0 m pc ls (.long v :: .ref o :: rest)).monitorRoom + (rest.map fun v => v.category).sum ≤ 8) (hdg : decode cc pc = .ok (.invokestatic index, 3)) (hf : cells + 0 ≤ R.cells ∧ slots + 0 ≤ R.slots)
    (kk : ∀ (H1 : Heap) (locs1 : List Loc), va_P D cl (w0.set q0 (o, .inl (cA, n, .inr (.inl (zw_fill n f v))))) H1 → va_D A (w0.set q0 (o, .inl (cA, n, .inr (.inl (zw_fill n f v))))) → va_S A H0 H1 locs1 → W p l e R s m args below meth c H1 locs1 cells slots Q (F0 m (pc + 3) ls rest)) : W p l e R s m args below meth c H locs cells slots Q (F0 m pc ls (.long v :: .ref o :: rest)) := by
  have hF := zw_free hD hS hA
  refine va_callv (va_runS (As := [.ref o, .long v]) (rest := rest) S (c_Arr_fill_l l q0 t0 v H.size ha htt hn) cw (zw_preSw hK hN hP hD) rfl rfl hsize rfl hW hdg hf) hS (fun q _ h => hF q h) hF (fun u t H1 locs1 ht hvm hw hB hz hk hS1 => ?_)
  obtain ⟨hP1, hK1, hD1⟩ := hB
  rw [ht] at hP1
  exact kk H1 locs1 hP1 (hD1.weaken (fun k q _ h => hF q.1 h)) hS1
end ZWF
def zw_recR (n : Nat) : Room := { frames := 4 + n, cells := 0, slots := 0, locals := 94 + n * 24 }
theorem zw_geF {k : Nat} (h : k ≤ 4) (n : Nat) : k ≤ (zw_recR (n + 1)).frames := Nat.le_trans h (by show 4 ≤ 4 + (n + 1); omega)
theorem zw_geL {k : Nat} (h : k ≤ 94) (n : Nat) : k ≤ (zw_recR (n + 1)).locals := Nat.le_trans h (by show 94 ≤ 94 + (n + 1) * 24; omega)
theorem zw_recF (n : Nat) : (zw_recR n).frames + 1 ≤ (zw_recR (n + 1)).frames := by show 4 + n + 1 ≤ 4 + (n + 1); omega
theorem zw_recL (n : Nat) : 24 + (zw_recR n).locals ≤ (zw_recR (n + 1)).locals := by show 24 + (94 + n * 24) ≤ 94 + (n + 1) * 24; omega
def zw_k_ai_alr {R : Type} (fi : Nat → Int32) (fl : Nat → Int64) (K : R → (Nat → Nat → Int32) → (Nat → Nat → Int64) → Prop) : R → (Nat → Int32) → (Nat → Int64) → (Nat → Nat → Int32) → (Nat → Nat → Int64) → Prop := fun r fi' fl' ai' al' => fi = fi' ∧ fl = fl' ∧ K r ai' al'
def zw_k_ai_alv (fi : Nat → Int32) (fl : Nat → Int64) (K : (Nat → Nat → Int32) → (Nat → Nat → Int64) → Prop) : (Nat → Int32) → (Nat → Int64) → (Nat → Nat → Int32) → (Nat → Nat → Int64) → Prop := fun fi' fl' ai' al' => fi = fi' ∧ fl = fl' ∧ K ai' al'
def zw_k_air {R : Type} (fi : Nat → Int32) (fl : Nat → Int64) (al : Nat → Nat → Int64) (K : R → (Nat → Nat → Int32) → Prop) : R → (Nat → Int32) → (Nat → Int64) → (Nat → Nat → Int32) → (Nat → Nat → Int64) → Prop := fun r fi' fl' ai' al' => fi = fi' ∧ fl = fl' ∧ al = al' ∧ K r ai'
def zw_k_aiv (fi : Nat → Int32) (fl : Nat → Int64) (al : Nat → Nat → Int64) (K : (Nat → Nat → Int32) → Prop) : (Nat → Int32) → (Nat → Int64) → (Nat → Nat → Int32) → (Nat → Nat → Int64) → Prop := fun fi' fl' ai' al' => fi = fi' ∧ fl = fl' ∧ al = al' ∧ K ai'
def zw_k_alv (fi : Nat → Int32) (fl : Nat → Int64) (ai : Nat → Nat → Int32) (K : (Nat → Nat → Int64) → Prop) : (Nat → Int32) → (Nat → Int64) → (Nat → Nat → Int32) → (Nat → Nat → Int64) → Prop := fun fi' fl' ai' al' => fi = fi' ∧ fl = fl' ∧ ai = ai' ∧ K al'
def zw_k_fi_ai_alr {R : Type} (fl : Nat → Int64) (K : R → (Nat → Int32) → (Nat → Nat → Int32) → (Nat → Nat → Int64) → Prop) : R → (Nat → Int32) → (Nat → Int64) → (Nat → Nat → Int32) → (Nat → Nat → Int64) → Prop := fun r fi' fl' ai' al' => fl = fl' ∧ K r fi' ai' al'
def zw_k_fi_ai_alv (fl : Nat → Int64) (K : (Nat → Int32) → (Nat → Nat → Int32) → (Nat → Nat → Int64) → Prop) : (Nat → Int32) → (Nat → Int64) → (Nat → Nat → Int32) → (Nat → Nat → Int64) → Prop := fun fi' fl' ai' al' => fl = fl' ∧ K fi' ai' al'
def zw_k_fi_air {R : Type} (fl : Nat → Int64) (al : Nat → Nat → Int64) (K : R → (Nat → Int32) → (Nat → Nat → Int32) → Prop) : R → (Nat → Int32) → (Nat → Int64) → (Nat → Nat → Int32) → (Nat → Nat → Int64) → Prop := fun r fi' fl' ai' al' => fl = fl' ∧ al = al' ∧ K r fi' ai'
def zw_k_fi_aiv (fl : Nat → Int64) (al : Nat → Nat → Int64) (K : (Nat → Int32) → (Nat → Nat → Int32) → Prop) : (Nat → Int32) → (Nat → Int64) → (Nat → Nat → Int32) → (Nat → Nat → Int64) → Prop := fun fi' fl' ai' al' => fl = fl' ∧ al = al' ∧ K fi' ai'
def zw_k_fi_alr {R : Type} (fl : Nat → Int64) (ai : Nat → Nat → Int32) (K : R → (Nat → Int32) → (Nat → Nat → Int64) → Prop) : R → (Nat → Int32) → (Nat → Int64) → (Nat → Nat → Int32) → (Nat → Nat → Int64) → Prop := fun r fi' fl' ai' al' => fl = fl' ∧ ai = ai' ∧ K r fi' al'
def zw_k_fi_alv (fl : Nat → Int64) (ai : Nat → Nat → Int32) (K : (Nat → Int32) → (Nat → Nat → Int64) → Prop) : (Nat → Int32) → (Nat → Int64) → (Nat → Nat → Int32) → (Nat → Nat → Int64) → Prop := fun fi' fl' ai' al' => fl = fl' ∧ ai = ai' ∧ K fi' al'
def zw_k_fi_fl_ai_alr {R : Type} (K : R → (Nat → Int32) → (Nat → Int64) → (Nat → Nat → Int32) → (Nat → Nat → Int64) → Prop) : R → (Nat → Int32) → (Nat → Int64) → (Nat → Nat → Int32) → (Nat → Nat → Int64) → Prop := fun r fi' fl' ai' al' => K r fi' fl' ai' al'
def zw_k_fi_fl_ai_alv (K : (Nat → Int32) → (Nat → Int64) → (Nat → Nat → Int32) → (Nat → Nat → Int64) → Prop) : (Nat → Int32) → (Nat → Int64) → (Nat → Nat → Int32) → (Nat → Nat → Int64) → Prop := fun fi' fl' ai' al' => K fi' fl' ai' al'
def zw_k_fi_fl_aiv (al : Nat → Nat → Int64) (K : (Nat → Int32) → (Nat → Int64) → (Nat → Nat → Int32) → Prop) : (Nat → Int32) → (Nat → Int64) → (Nat → Nat → Int32) → (Nat → Nat → Int64) → Prop := fun fi' fl' ai' al' => al = al' ∧ K fi' fl' ai'
def zw_k_fir {R : Type} (fl : Nat → Int64) (ai : Nat → Nat → Int32) (al : Nat → Nat → Int64) (K : R → (Nat → Int32) → Prop) : R → (Nat → Int32) → (Nat → Int64) → (Nat → Nat → Int32) → (Nat → Nat → Int64) → Prop := fun r fi' fl' ai' al' => fl = fl' ∧ ai = ai' ∧ al = al' ∧ K r fi'
def zw_k_fiv (fl : Nat → Int64) (ai : Nat → Nat → Int32) (al : Nat → Nat → Int64) (K : (Nat → Int32) → Prop) : (Nat → Int32) → (Nat → Int64) → (Nat → Nat → Int32) → (Nat → Nat → Int64) → Prop := fun fi' fl' ai' al' => fl = fl' ∧ ai = ai' ∧ al = al' ∧ K fi'
