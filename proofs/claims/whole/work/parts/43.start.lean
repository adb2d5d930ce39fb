theorem d_La_cell_0 : decode b_La_cell 0 = .ok (.iload_n 1, 1) := by decide +kernel
theorem d_La_cell_1 : decode b_La_cell 1 = .ok (.aload_n 0, 1) := by decide +kernel
theorem d_La_cell_2 : decode b_La_cell 2 = .ok (.arraylength, 1) := by decide +kernel
theorem d_La_cell_3 : decode b_La_cell 3 = .ok (.if_icmp .ge (9), 3) := by decide +kernel
theorem d_La_cell_6 : decode b_La_cell 6 = .ok (.aload_n 0, 1) := by decide +kernel
theorem d_La_cell_7 : decode b_La_cell 7 = .ok (.iload_n 1, 1) := by decide +kernel
theorem d_La_cell_8 : decode b_La_cell 8 = .ok (.iaload, 1) := by decide +kernel
theorem d_La_cell_9 : decode b_La_cell 9 = .ok (.goto (4), 3) := by decide +kernel
theorem d_La_cell_12 : decode b_La_cell 12 = .ok (.iconst 0, 1) := by decide +kernel
theorem d_La_cell_13 : decode b_La_cell 13 = .ok (.ireturn, 1) := by decide +kernel

def La_v0 (L : Nat) (xs : Nat → Int32) : Int32 := if nI L ≤ 0 then 0 else xs 0
theorem La_Xblind {av : List Value} {b L : Nat} {xs : Nat → Int32} : FrameBlind (va_Pc av (fun U => va_X b L xs U U.heap)) := fun a U g mk q => ⟨q.1, va_X.moved (u := U) (U := U.calling g mk a) (Vm.Alike.refl U.vm) q.2⟩
set_option maxHeartbeats 4000000 in
set_option maxRecDepth 100000 in
theorem c_La_cell (l : Launch) (b L : Nat) (xs : Nat → Int32) (hL : L < 2 ^ 31) : Met l y_La_cell ws_La_cell ({ frames := 0, cells := 0, slots := 0, locals := 0 }) (va_Pc [.ref b, .int (0 : Int32)] (fun U => va_X b L xs U U.heap)) (vp_Si (fun r => r = La_v0 L xs)) 0 0 (fun _ => False) := by
  refine Met.ofW (cc := b_La_cell) (maxL := 2) (ret := (Option.some FieldType.int)) (by decide) rfl ?_
  intro p e s m args below meth c s₁ B hml hv
  obtain ⟨rfl, hX⟩ := hv
  have hx := B.exec
  have hb := B.bytes
  have hr := B.returns
  have hlocks := B.notSynchronized
  have hbl : b < s.heap.size := by
    obtain ⟨scr, h1, -⟩ := hX
    exact (Array.getElem?_eq_some_iff.mp h1).1
  have hS : va_S (fun _ => False) s.heap s.heap [] := va_S.rf
  have hl := lv_entry ([.ref b, .int (0 : Int32)] : List Value) (n := 2) (Nat.le_of_ble_eq_true rfl)
  rw [lg_entry_eq]
  generalize (lg_sl ([.ref b, .int (0 : Int32)] : List Value) ++ List.replicate (2 - (lg_sl ([.ref b, .int (0 : Int32)] : List Value)).length) Slot.unset).toArray = ls at hl ⊢
  have hl : lv_has ls 2 [(0, .ref b), (1, .int (0 : Int32))] := hl
  refine lv_iload_n hx hb d_La_cell_0 rfl (lv_at hl 1 rfl) ?_
  refine lv_aload_n hx hb d_La_cell_1 rfl (lv_at hl 0 rfl) ?_
  refine va_slen hx hb hX hbl (fun h => h) hS d_La_cell_2 ?_
  refine lv_icmp_ge (tgt := 12) hx hb d_La_cell_3 (by decide) (fun c3 => ?_) (fun c3 => ?_)
  · refine lv_iconst (v := (0 : Int32)) hx hb d_La_cell_12 (by decide) ?_
    exact W.iret (v := (0 : Int32)) hx hb hr (fun t ht hW => ⟨(0 : Int32), rfl, (if_pos c3).symm, ht⟩) t_nil d_La_cell_13
  · have h0 : 0 < L := Nat.pos_of_ne_zero (fun h => c3 (by subst h; decide))
    refine lv_aload_n hx hb d_La_cell_6 rfl (lv_at hl 0 rfl) ?_
    refine lv_iload_n hx hb d_La_cell_7 rfl (lv_at hl 1 rfl) ?_
    refine va_sld hx hb hX hbl (fun h => h) hS (vp_in_nI (n := 0) h0 hL) d_La_cell_8 ?_
    refine lv_goto (tgt := 13) hx hb d_La_cell_9 (by decide) ?_
    exact W.iret (v := xs (0 : Int32).toNatClampNeg) hx hb hr (fun t ht hW => ⟨_, rfl, (if_neg c3).symm, ht⟩) t_nil d_La_cell_13

section ZWV
variable {p : Program} {l : Launch} {e : Env} {R : Room} {s : State} {m : MethodId} {args : Array Value} {below : List Frame} {meth : Method} {c : Code} {H : Heap} {locs : List Loc} {cells slots mc ms : Nat} {Q : State → Prop}
variable {pc : Nat} {ls : Array Slot} {rest st0 : List Value} {a : Array Value} {A : Nat → Prop} {H0 : Heap} {D : va_G} {cl : List vw_C} {w0 wA : va_W}
theorem zw_lBv {S : Type} {post : S → Prop} {Wd : S → va_W} {tyf : S → List (ClassId × FieldType)} (hr : va_Run p l e R s m args below meth c H locs cells slots mc ms (F0 m pc ls st0) rest (va_Qv post (fun u t => zw_E D cl (tyf u) (va_A w0 H.size) (Wd u) t) (va_A w0 H.size) a) (va_A w0 H.size)) (hPA : va_P D cl wA H) (hD : va_D A (wA ++ w0)) (hS : va_S A H0 H locs) (hA : ∀ q, H0.size ≤ q → A q)
    (kk : ∀ (u : S) (H1 : Heap) (locs1 : List Loc), post u → va_P D cl wA H1 → va_P D cl (Wd u) H1 → va_K D cl (tyf u) s → va_D A (wA ++ Wd u) → va_S A H0 H1 locs1 → W p l e R s m args below meth c H1 locs1 (cells + mc) (slots + ms) Q (F0 m (pc + 3) ls rest)) : W p l e R s m args below meth c H locs cells slots Q (F0 m pc ls st0) := by
  have hF := zw_free (zw_DR hD) hS hA
  refine va_callv hr hS (fun q _ h => hF q h) hF (fun u t H1 locs1 ht hvm hw hB hz hk hS1 => ?_)
  obtain ⟨hP1, hK1, hD1⟩ := hB
  rw [ht] at hP1
  exact kk u H1 locs1 hw (zw_keepA hD hPA hk) hP1 (va_K.moved hvm.symm hK1) (zw_newDB hD hPA hF hD1) hS1
end ZWV

theorem La_nw : ∀ q ∈ zw_nw, Cond.methodLinkNest q.1 q.2.1 q.2.2.1 q.2.2.2 ∈ lw_tbl := by decide +kernel
set_option maxHeartbeats 8000000 in
set_option maxRecDepth 100000 in
/-- the law from its entry, out of a relation of the two sides that every call keeps -/
theorem La_start_open {p : Program} {e : Env} {s : State} {m : MethodId} {below : List Frame} {meth : Method} {c : Code} (l : Launch) {b L : Nat} {xs : Nat → Int32} (hL : L ≤ 2561) (C0 : lw_At p s m meth c b L xs) (Rel : zw_Z → zw_Z → Prop) (hst : st_all Rel) (h0 : ∀ p0, Rel (SS_fi0 p0, fun _ => 0, fun _ _ => 0, fun _ _ => 0) (Mo_fi0 p0, fun _ => 0, fun _ _ => 0, fun _ _ => 0)) : W p l e room_1 s m #[Value.ref b] below meth c s.heap [] 0 0 (lw_Z below #[Value.ref b] s) (entryFrame m ([Value.ref b] : List Value).toArray 4) := by
  obtain ⟨hx, hb, hr, hml, hown0, hts0, hX, hbl, hlocks, hgv⟩ := id C0
  have hown : s.vm.findClass R_La = some m.cls := hown0
  have hA : ∀ q : Nat, s.heap.size ≤ q → (fun q : Nat => s.heap.size ≤ q) q := fun _ h => h
  have hbA : ¬ (fun q : Nat => s.heap.size ≤ q) b := Nat.not_le.mpr hbl
  have ht : ∀ w ∈ zw_tbl, w.before #[Value.ref b] s = true := fun w h => hts0 w (List.mem_filter.mp h).1
  have hts : ∀ w ∈ (Cond.initialized R_La :: zw_tbl), w.before #[Value.ref b] s = true := fun w h => (List.mem_cons.mp h).elim (fun q => q ▸ ht _ kw_0) (ht w)
  obtain ⟨c0, i0, k0⟩ := u_known (C := R_SS) (T := T_SS) (N := 9) (n := 9) ht in_SS (ht _ kw_13)
  obtain ⟨c1, i1, k1⟩ := u_known (C := R_Cr) (T := T_Cr) (N := 3) (n := 3) ht in_Cr (ht _ kw_21)
  obtain ⟨c2, i2, k2⟩ := u_known (C := R_Gi) (T := T_Gi) (N := 7) (n := 7) ht in_Gi (ht _ kw_121)
  obtain ⟨c3, i3, k3⟩ := u_known (C := R_Pl) (T := T_Pl) (N := 11) (n := 11) ht in_Pl (ht _ kw_38)
  obtain ⟨c4, i4, k4⟩ := u_known (C := R_Ru) (T := T_Ru) (N := 5) (n := 5) ht in_Ru (ht _ kw_96)
  obtain ⟨c5, i5, k5⟩ := u_known (C := R_Se) (T := T_Se) (N := 7) (n := 7) ht in_Se (ht _ kw_213)
  obtain ⟨c6, i6, k6⟩ := u_known (C := R_Wa) (T := T_Wa) (N := 11) (n := 11) ht in_Wa (ht _ kw_170)
  obtain ⟨c7, i7, k7⟩ := u_known (C := R_Mo) (T := T_Mo) (N := 36) (n := 36) ht in_Mo (ht _ kw_608)
  obtain ⟨dC, dI, hKc⟩ : ∃ (dC : Nat → ClassId) (dI : Nat → Nat → Nat), ∀ (k : Nat) (q : vw_C), vwCl[k]? = some q → u_Kn s q.1 q.2.1 q.2.2 (dC k) (dI k) := by
    refine ⟨fun k => ([c0, c1, c2, c3, c4, c5, c6, c7] : List ClassId).getD k 0, fun k => ([i0, i1, i2, i3, i4, i5, i6, i7] : List (Nat → Nat)).getD k i0, ?_⟩
    intro k q hq
    match k, hq with
    | 0, hq => cases hq; exact k0
    | 1, hq => cases hq; exact k1
    | 2, hq => cases hq; exact k2
    | 3, hq => cases hq; exact k3
    | 4, hq => cases hq; exact k4
    | 5, hq => cases hq; exact k5
    | 6, hq => cases hq; exact k6
    | 7, hq => cases hq; exact k7
    | k + 8, hq => simp [vwCl] at hq
  have hK0 : va_K (dC, dI) vwCl [] s := ⟨hKc, fun k q h => by simp at h⟩
  have hN : zw_N s := fun q hq => va_Nw.of rfl (hts0 _ (La_nw q hq))
  have hO : va_AOA .int s := va_AOA.of (hts0 (.arrayOver (.array .int)) (List.mem_of_getElem? (i := 175) (by decide +kernel)))
  have hS : va_S (fun q : Nat => s.heap.size ≤ q) s.heap s.heap [] := va_S.rf
  have hP : va_P (dC, dI) vwCl [] s.heap := fun k q h => by simp at h
  have hD : va_D (fun q : Nat => s.heap.size ≤ q) [] := ⟨fun i j p q h => by simp at h, fun k q h => by simp at h⟩
  have hl := lv_entry ([.ref b] : List Value) (n := 4) (Nat.le_of_ble_eq_true rfl)
  rw [lg_entry_eq]
  generalize (lg_sl ([.ref b] : List Value) ++ List.replicate (4 - (lg_sl ([.ref b] : List Value)).length) Slot.unset).toArray = ls at hl ⊢
  have hl : lv_has ls 4 [(0, .ref b)] := hl
  refine va_new (ci := 0) (fs := [.null, .null, .null, .null, .null, .null, .null, .null, .int 0]) (C := R_SS) (T := T_SS) (N := 9) hx hb ht in_SS t_SS t_SS_ok hown (ht _ kw_12) (ht _ kw_13) (ht _ kw_1) hK0 hP hD hS hA rfl zw_dflt_SS (Nat.le_of_ble_eq_true rfl) (Nat.le_of_ble_eq_true rfl) d_La_law_0 (fun q0 H hP hD hS => ?_)
  have hPc : va_P (dC, dI) vwCl [(q0, .inr (0, [.null, .null, .null, .null, .null, .null, .null, .null, .int 0]))] H := hP
  have hD : va_D (fun q : Nat => s.heap.size ≤ q) ([] ++ [(q0, .inr (0, [.null, .null, .null, .null, .null, .null, .null, .null, .int 0]))]) := hD
  have hPr : va_P (dC, dI) vwCl [] H := fun k q h => by simp at h
  refine lv_dup hx hb d_La_law_3 rfl ?_
  refine lv_aload_n hx hb d_La_law_4 rfl (lv_at hl 0 rfl) ?_
  refine lv_iconst (v := (0 : Int32)) hx hb d_La_law_5 (by decide) ?_
  refine vp_callSi (va_Run.run (va_runS (As := [.ref b, .int (0 : Int32)]) (rest := [.ref q0, .ref q0]) ⟨hx, hb, hml, hown, hts⟩ (c_La_cell l b L xs (by omega)) (va_cwS 2 hts (zw_goodS kw_604 kw_605 kw_0 kw_606) rfl rfl rfl hd_La_cell.2 ⟨Nat.le_of_ble_eq_true rfl, Nat.le_of_ble_eq_true rfl⟩) ⟨La_Xblind, fun U hU hW => ⟨rfl, by show va_X b L xs U U.heap; rw [hU]; exact (hX.kept (hS.2.1 b hbl hbA)).moved hW.alike⟩⟩ rfl rfl hl.1 rfl (lv_room (Nat.le_of_ble_eq_true rfl)) d_La_law_6 ⟨Nat.le_of_ble_eq_true rfl, Nat.le_of_ble_eq_true rfl⟩)) (fun r6 hr6 => ?_)
  refine zw_lBv (wA := []) (va_runI (As := [.int r6]) (rest := [.ref q0]) ⟨hx, hb, hml, hown, hts⟩ (c_SS_init l dC dI q0 H.size r6) (cwI 1 hts (zw_goodC kw_16) rfl rfl rfl (ht _ kw_1) (ht _ kw_14) (ht _ kw_15) rfl hd_SS_init.2 ⟨Nat.le_of_ble_eq_true rfl, Nat.le_of_ble_eq_true rfl⟩) (zw_preI hK0 hN hO hPc (zw_DR hD)) rfl rfl hl.1 rfl (lv_room (Nat.le_of_ble_eq_true rfl)) d_La_law_9 ⟨Nat.le_of_ble_eq_true rfl, Nat.le_of_ble_eq_true rfl⟩) hPr hD hS hA (fun u1 H locs hq hPr hPn hKn hD hS => ?_)
  obtain ⟨ua, uc⟩ := u1
  have hq0 : ua 0 = q0 := hq
  have hPA : va_P (dC, dI) vwCl (cw (uc 0) (uc 1) (uc 2) (uc 3) ua (SS_fi0 r6) (fun _ => 0) (fun _ _ => 0) (fun _ _ => 0)) H := hPn
  have hKA : va_K (dC, dI) vwCl [(uc 0, .int), (uc 1, .long), (uc 2, .array .int)] s := hKn
  have hD : va_D (fun q : Nat => s.heap.size ≤ q) (cw (uc 0) (uc 1) (uc 2) (uc 3) ua (SS_fi0 r6) (fun _ => 0) (fun _ _ => 0) (fun _ _ => 0)) := hD
  have hP := hPA
  refine lv_astore_n (lv' := [(1, .ref q0), (0, .ref b)]) hx hb d_La_law_12 rfl hl (by decide) rfl (fun ls hl => ?_)
  refine va_new (ci := 7) (fs := [.int 0, .null, .null, .null, .null, .null, .null, .null, .int 0, .null, .null, .int 0, .null, .null, .null, .null, .int 0, .null, .int 0, .int 0, .null, .null, .null, .null, .int 0, .null, .int 0, .null, .int 0, .null, .null, .null, .null, .null, .null, .null]) (C := R_Mo) (T := T_Mo) (N := 36) hx hb ht in_Mo t_Mo t_Mo_ok hown (ht _ kw_607) (ht _ kw_608) (ht _ kw_9) hK0 hP hD hS hA rfl zw_dflt_Mo (Nat.le_of_ble_eq_true rfl) (Nat.le_of_ble_eq_true rfl) d_La_law_13 (fun q1 H hP hD hS => ?_)
  have hPc : va_P (dC, dI) vwCl [(q1, .inr (7, [.int 0, .null, .null, .null, .null, .null, .null, .null, .int 0, .null, .null, .int 0, .null, .null, .null, .null, .int 0, .null, .int 0, .int 0, .null, .null, .null, .null, .int 0, .null, .int 0, .null, .int 0, .null, .null, .null, .null, .null, .null, .null]))] H := fun k q h => hP _ q (zw_at_r h)
  have hPr : va_P (dC, dI) vwCl (cw (uc 0) (uc 1) (uc 2) (uc 3) ua (SS_fi0 r6) (fun _ => 0) (fun _ _ => 0) (fun _ _ => 0)) H := fun k q h => hP k q (by rw [List.getElem?_append_left (List.getElem?_eq_some_iff.mp h).1]; exact h)
  refine lv_dup hx hb d_La_law_16 rfl ?_
  refine lv_aload_n hx hb d_La_law_17 rfl (lv_at hl 1 rfl) ?_
  refine lv_iconst (v := (0 : Int32)) hx hb d_La_law_18 (by decide) ?_
  refine vp_callSi (va_Run.run (va_runS (As := [.ref b, .int (0 : Int32)]) (rest := [.ref q1, .ref q1]) ⟨hx, hb, hml, hown, hts⟩ (c_La_cell l b L xs (by omega)) (va_cwS 2 hts (zw_goodS kw_604 kw_605 kw_0 kw_606) rfl rfl rfl hd_La_cell.2 ⟨Nat.le_of_ble_eq_true rfl, Nat.le_of_ble_eq_true rfl⟩) ⟨La_Xblind, fun U hU hW => ⟨rfl, by show va_X b L xs U U.heap; rw [hU]; exact (hX.kept (hS.2.1 b hbl hbA)).moved hW.alike⟩⟩ rfl rfl hl.1 rfl (lv_room (Nat.le_of_ble_eq_true rfl)) d_La_law_19 ⟨Nat.le_of_ble_eq_true rfl, Nat.le_of_ble_eq_true rfl⟩)) (fun r19 hr19 => ?_)
  refine zw_lBv (wA := (cw (uc 0) (uc 1) (uc 2) (uc 3) ua (SS_fi0 r6) (fun _ => 0) (fun _ _ => 0) (fun _ _ => 0))) (va_runI (As := [.int r19]) (rest := [.ref q1]) ⟨hx, hb, hml, hown, hts⟩ (c_Mo_init l dC dI q1 H.size r19) (cwI 1 hts (zw_goodC kw_611) rfl rfl rfl (ht _ kw_9) (ht _ kw_609) (ht _ kw_610) rfl hd_Mo_init.2 ⟨Nat.le_of_ble_eq_true rfl, Nat.le_of_ble_eq_true rfl⟩) (zw_preI hK0 hN hO hPc (zw_DR hD)) rfl rfl hl.1 rfl (lv_room (Nat.le_of_ble_eq_true rfl)) d_La_law_22 ⟨Nat.le_of_ble_eq_true rfl, Nat.le_of_ble_eq_true rfl⟩) hPr hD hS hA (fun u2 H locs hq hPr hPn hKn hD hS => ?_)
  obtain ⟨va, vc⟩ := u2
  have hq1 : va 0 = q1 := hq
  have hKB : va_K (dC, dI) vwCl [(vc 0, .int), (vc 3, .boolean), (vc 1, .long)] s := hKn
  have hK := hKA.app hKB
  have hK : va_K (dC, dI) vwCl [(uc 0, .int), (uc 1, .long), (uc 2, .array .int), (vc 0, .int), (vc 3, .boolean), (vc 1, .long)] s := hK
  have eI : uc 0 = vc 0 := zw_cls hK 0 3 rfl rfl
  have eJ : uc 1 = vc 1 := zw_cls hK 1 5 rfl rfl
  have hK : va_K (dC, dI) vwCl [(uc 0, .int), (uc 1, .long), (uc 2, .array .int), (vc 3, .boolean)] s := hK.sub [0, 1, 2, 4] rfl
  have hPA : va_P (dC, dI) vwCl (cw (uc 0) (uc 1) (uc 2) (vc 3) ua (SS_fi0 r6) (fun _ => 0) (fun _ _ => 0) (fun _ _ => 0)) H := hPr
  have hPB : va_P (dC, dI) vwCl (mw (uc 0) (uc 1) (uc 2) (vc 3) va (Mo_fi0 r19) (fun _ => 0) (fun _ _ => 0) (fun _ _ => 0)) H := by rw [eI, eJ]; exact hPn
  have hD : va_D (fun q : Nat => s.heap.size ≤ q) ((cw (uc 0) (uc 1) (uc 2) (vc 3) ua (SS_fi0 r6) (fun _ => 0) (fun _ _ => 0) (fun _ _ => 0)) ++ (mw (uc 0) (uc 1) (uc 2) (vc 3) va (Mo_fi0 r19) (fun _ => 0) (fun _ _ => 0) (fun _ _ => 0))) := by
    have hD2 : va_D (fun q : Nat => s.heap.size ≤ q) ((cw (uc 0) (uc 1) (uc 2) (vc 3) ua (SS_fi0 r6) (fun _ => 0) (fun _ _ => 0) (fun _ _ => 0)) ++ (mw (vc 0) (vc 1) (uc 2) (vc 3) va (Mo_fi0 r19) (fun _ => 0) (fun _ _ => 0) (fun _ _ => 0))) := hD
    rw [← eI, ← eJ] at hD2
    exact hD2
  refine lv_astore_n (lv' := [(2, .ref q1), (1, .ref q0), (0, .ref b)]) hx hb d_La_law_25 rfl hl (by decide) rfl (fun ls hl => ?_)
  refine lv_iconst (v := (1 : Int32)) hx hb d_La_law_26 (by decide) ?_
  refine lv_istore_n (lv' := [(3, .int (1 : Int32)), (2, .ref q1), (1, .ref q0), (0, .ref b)]) hx hb d_La_law_27 rfl hl (by decide) rfl (fun ls hl => ?_)
  rw [← hq0, ← hq1] at hl
  have e19 : r19 = r6 := hr19.trans hr6.symm
  subst e19
  exact La_loop hL C0 hN hK (by decide) (by decide) hst (L + 5) 1 (by omega) (by omega) _ _ _ _ _ _ _ _ H locs ls (h0 r19) hPA hPB hD hS (lv_sub hl [3, 2, 1, 0] rfl)
