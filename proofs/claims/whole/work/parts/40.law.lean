/-! THE CLAIM OUT OF ONE WALK OF THE LAW'S BODY. Your part is whole_start (and what it stands on); all else here is the same for every law, but numbers. -/
def R_law : String := "StageStepsLaw"
def lw_P (b : Addr) (xs : List Int32) (args : Array Value) (s : State) : Prop := args = #[.ref b] ∧ s.IntsAt b xs ∧ xs.length ≤ 2561 ∧ (Jvm.Cond.and given_1 narrow_1).before args s = true
def lw_Q (_ : Array Value) (s : State) (o : Outcome) (t : State) : Prop := o = .returned (some (.int 1)) ∧ Framed s o t [] 600000 7302250
def lw_Z (below : List Frame) (a : Array Value) (s : State) : State → Prop := fun t => ∃ o, t.status = .running ∧ Ended t below o ∧ lw_Q a s o t
/-- the law's own end, with 1 on the stack, nothing written that was there before, its room as the claim has it -/
theorem lw_ret {p : Program} {l : Launch} {e : Env} {s : State} {m : MethodId} {below : List Frame} {meth : Method} {c : Code} {b : Nat} (hx : p.tables.exec = Jvm.exec) (hb : c.code = code) (hr : meth.sig.returnType = ret) (hlocks : meth.locks = false) {pc : Nat} {H : Heap} {ls : Array Slot} (hdg : decode code pc = .ok (.ireturn, 1)) : W p l e room_1 s m #[Value.ref b] below meth c H [] 600000 7302250 (lw_Z below #[Value.ref b] s) (F0 m pc ls [.int 1]) := by
  intro T hT X
  obtain ⟨fs, hret, hrun, hended, hW, hframe⟩ := X.leave (v := some (.int 1)) (hlocks := hlocks) (fun h => by rw [hr] at h; cases h)
  have hmeth' : T.vm.method? m = some meth := X.method'
  refine ⟨T.setFrames fs, ?_, .returned (some (.int 1)), hrun, hended, rfl, ⟨_, rfl⟩, hW, hframe⟩
  jvm_step X.here [X.here.top, hx, hb, hdg, hmeth', hr, ret, narrow_b1]
  (try refine ⟨rfl, ?_⟩); (try refine ⟨rfl, ?_⟩)
  first | (intro acts; rw [hret _ acts rfl rfl rfl]) | rw [hret _ _ rfl rfl rfl]
  exact Steps.refl _
/-- what holds at the law's entry: the machine, the code, the tables' words (any of lw_tbl by 'hts w (by decide +kernel)'), the script of L ints xs at the cell b, what the Statement gives of the start (any of its parts by flat_of_before) -/
def lw_At (p : Program) (s : State) (m : MethodId) (meth : Method) (c : Code) (b L : Nat) (xs : Nat → Int32) : Prop :=
  p.tables.exec = Jvm.exec ∧ c.code = code ∧ meth.sig.returnType = ret ∧ c.maxLocals = 4 ∧ s.vm.findClass R_law = some m.cls ∧ (∀ w ∈ lw_tbl, w.before #[Value.ref b] s = true) ∧ va_X b L xs s s.heap ∧ b < s.heap.size ∧ meth.locks = false ∧ (Jvm.Cond.and given_1 narrow_1).before #[Value.ref b] s = true
/-! the law: two worlds side by side -/
theorem zw_DL {A : Nat → Prop} {wA wB : va_W} (h : va_D A (wA ++ wB)) : va_D A wA :=
  ⟨fun i j x y hi hj e => h.1 i j x y (by rw [List.getElem?_append_left (List.getElem?_eq_some_iff.mp hi).1]; exact hi) (by rw [List.getElem?_append_left (List.getElem?_eq_some_iff.mp hj).1]; exact hj) e, fun k x hk => h.2 k x (by rw [List.getElem?_append_left (List.getElem?_eq_some_iff.mp hk).1]; exact hk)⟩
theorem zw_at_r {wA wB : va_W} {j : Nat} {x : Nat × va_E} (h : wB[j]? = some x) : (wA ++ wB)[wA.length + j]? = some x := by
  rw [List.getElem?_append_right (Nat.le_add_right _ _), Nat.add_sub_cancel_left]; exact h
theorem zw_DR {A : Nat → Prop} {wA wB : va_W} (h : va_D A (wA ++ wB)) : va_D A wB :=
  ⟨fun i j x y hi hj e => Nat.add_left_cancel (h.1 _ _ x y (zw_at_r hi) (zw_at_r hj) e), fun k x hk => h.2 _ x (zw_at_r hk)⟩
theorem zw_Dx {A : Nat → Prop} {wA wB : va_W} (h : va_D A (wA ++ wB)) {i j : Nat} {x y : Nat × va_E} (hi : wA[i]? = some x) (hj : wB[j]? = some y) : x.1 ≠ y.1 := fun e => by
  have hl := (List.getElem?_eq_some_iff.mp hi).1
  have := h.1 i (wA.length + j) x y (by rw [List.getElem?_append_left hl]; exact hi) (zw_at_r hj) e
  omega
theorem zw_outB {A : Nat → Prop} {D : va_G} {cl : List vw_C} {H : Heap} {wA wB : va_W} (hD : va_D A (wA ++ wB)) (hPB : va_P D cl wB H) {j : Nat} {y : Nat × va_E} (hj : wB[j]? = some y) : y.1 < H.size ∧ ¬ va_A wA H.size y.1 := by
  have hl := (hPB j y hj).lt
  refine ⟨hl, ?_⟩
  rintro (⟨k, e, h⟩ | h)
  · exact zw_Dx hD h hj rfl
  · exact absurd h (Nat.not_le.mpr hl)
theorem zw_outA {A : Nat → Prop} {D : va_G} {cl : List vw_C} {H : Heap} {wA wB : va_W} (hD : va_D A (wA ++ wB)) (hPA : va_P D cl wA H) {j : Nat} {y : Nat × va_E} (hj : wA[j]? = some y) : y.1 < H.size ∧ ¬ va_A wB H.size y.1 := by
  have hl := (hPA j y hj).lt
  refine ⟨hl, ?_⟩
  rintro (⟨k, e, h⟩ | h)
  · exact zw_Dx hD hj h rfl
  · exact absurd h (Nat.not_le.mpr hl)
theorem zw_keepB {A : Nat → Prop} {D : va_G} {cl : List vw_C} {H H1 : Heap} {wA wB : va_W} (hD : va_D A (wA ++ wB)) (hPB : va_P D cl wB H) (hk : ∀ q : Nat, q < H.size → ¬ va_A wA H.size q → H1[q]? = H[q]?) : va_P D cl wB H1 :=
  fun k q h => (hPB k q h).kept (hk q.1 (zw_outB hD hPB h).1 (zw_outB hD hPB h).2)
theorem zw_keepA {A : Nat → Prop} {D : va_G} {cl : List vw_C} {H H1 : Heap} {wA wB : va_W} (hD : va_D A (wA ++ wB)) (hPA : va_P D cl wA H) (hk : ∀ q : Nat, q < H.size → ¬ va_A wB H.size q → H1[q]? = H[q]?) : va_P D cl wA H1 :=
  fun k q h => (hPA k q h).kept (hk q.1 (zw_outA hD hPA h).1 (zw_outA hD hPA h).2)
theorem zw_newDA {A : Nat → Prop} {D : va_G} {cl : List vw_C} {H : Heap} {wA wA' wB : va_W} (hD : va_D A (wA ++ wB)) (hPB : va_P D cl wB H) (hF : ∀ q, va_A wA H.size q → A q) (hD1 : va_D (va_A wA H.size) wA') : va_D A (wA' ++ wB) :=
  va_D.app (hD1.weaken (fun k q _ h => hF q.1 h)) (zw_DR hD) (fun i j x y hi hj e => (zw_outB hD hPB hj).2 (e ▸ hD1.2 i x hi))
theorem zw_newDB {A : Nat → Prop} {D : va_G} {cl : List vw_C} {H : Heap} {wA wB wB' : va_W} (hD : va_D A (wA ++ wB)) (hPA : va_P D cl wA H) (hF : ∀ q, va_A wB H.size q → A q) (hD1 : va_D (va_A wB H.size) wB') : va_D A (wA ++ wB') :=
  va_D.app (zw_DL hD) (hD1.weaken (fun k q _ h => hF q.1 h)) (fun i j x y hi hj e => (zw_outA hD hPA hi).2 (e.symm ▸ hD1.2 j y hj))
section ZWL
variable {p : Program} {l : Launch} {e : Env} {R : Room} {s : State} {m : MethodId} {args : Array Value} {below : List Frame} {meth : Method} {c : Code} {H : Heap} {locs : List Loc} {cells slots : Nat} {Q : State → Prop}
variable {pc : Nat} {ls : Array Slot} {rest st0 : List Value} {a : Array Value} {A : Nat → Prop} {H0 : Heap} {D : va_G} {cl : List vw_C} {tys : List (ClassId × FieldType)} {w0 wA wB : va_W} {Wd : (Nat → Int32) → (Nat → Int64) → (Nat → Nat → Int32) → (Nat → Nat → Int64) → va_W}
theorem zw_lAi {K : Int32 → (Nat → Int32) → (Nat → Int64) → (Nat → Nat → Int32) → (Nat → Nat → Int64) → Prop} (hr : va_Run p l e R s m args below meth c H locs cells slots 0 0 (F0 m pc ls st0) rest (va_Qi (fun r (u : zw_Z) => K r u.1 u.2.1 u.2.2.1 u.2.2.2) (fun u t => zw_E D cl tys (va_A w0 H.size) (Wd u.1 u.2.1 u.2.2.1 u.2.2.2) t) (va_A w0 H.size) a) (va_A w0 H.size)) (hPB : va_P D cl wB H) (hD : va_D A (w0 ++ wB)) (hS : va_S A H0 H locs) (hA : ∀ q, H0.size ≤ q → A q)
    (kk : ∀ r fi fl ai al (H1 : Heap) (locs1 : List Loc), K r fi fl ai al → va_P D cl (Wd fi fl ai al) H1 → va_P D cl wB H1 → va_D A (Wd fi fl ai al ++ wB) → va_S A H0 H1 locs1 → W p l e R s m args below meth c H1 locs1 cells slots Q (F0 m (pc + 3) ls (.int r :: rest))) : W p l e R s m args below meth c H locs cells slots Q (F0 m pc ls st0) := by
  have hF := zw_free (zw_DL hD) hS hA
  refine va_calli hr hS (fun q _ h => hF q h) hF (fun r u t H1 locs1 ht hvm hw hB hz hk hS1 => ?_)
  obtain ⟨hP1, hK1, hD1⟩ := hB
  rw [ht] at hP1
  exact kk r _ _ _ _ H1 locs1 hw hP1 (zw_keepB hD hPB hk) (zw_newDA hD hPB hF hD1) hS1
theorem zw_lAl {K : Int64 → (Nat → Int32) → (Nat → Int64) → (Nat → Nat → Int32) → (Nat → Nat → Int64) → Prop} (hr : va_Run p l e R s m args below meth c H locs cells slots 0 0 (F0 m pc ls st0) rest (va_Ql (fun r (u : zw_Z) => K r u.1 u.2.1 u.2.2.1 u.2.2.2) (fun u t => zw_E D cl tys (va_A w0 H.size) (Wd u.1 u.2.1 u.2.2.1 u.2.2.2) t) (va_A w0 H.size) a) (va_A w0 H.size)) (hPB : va_P D cl wB H) (hD : va_D A (w0 ++ wB)) (hS : va_S A H0 H locs) (hA : ∀ q, H0.size ≤ q → A q)
    (kk : ∀ r fi fl ai al (H1 : Heap) (locs1 : List Loc), K r fi fl ai al → va_P D cl (Wd fi fl ai al) H1 → va_P D cl wB H1 → va_D A (Wd fi fl ai al ++ wB) → va_S A H0 H1 locs1 → W p l e R s m args below meth c H1 locs1 cells slots Q (F0 m (pc + 3) ls (.long r :: rest))) : W p l e R s m args below meth c H locs cells slots Q (F0 m pc ls st0) := by
  have hF := zw_free (zw_DL hD) hS hA
  refine va_calll hr hS (fun q _ h => hF q h) hF (fun r u t H1 locs1 ht hvm hw hB hz hk hS1 => ?_)
  obtain ⟨hP1, hK1, hD1⟩ := hB
  rw [ht] at hP1
  exact kk r _ _ _ _ H1 locs1 hw hP1 (zw_keepB hD hPB hk) (zw_newDA hD hPB hF hD1) hS1
theorem zw_lBi {K : Int32 → (Nat → Int32) → (Nat → Int64) → (Nat → Nat → Int32) → (Nat → Nat → Int64) → Prop} (hr : va_Run p l e R s m args below meth c H locs cells slots 0 0 (F0 m pc ls st0) rest (va_Qi (fun r (u : zw_Z) => K r u.1 u.2.1 u.2.2.1 u.2.2.2) (fun u t => zw_E D cl tys (va_A w0 H.size) (Wd u.1 u.2.1 u.2.2.1 u.2.2.2) t) (va_A w0 H.size) a) (va_A w0 H.size)) (hPA : va_P D cl wA H) (hD : va_D A (wA ++ w0)) (hS : va_S A H0 H locs) (hA : ∀ q, H0.size ≤ q → A q)
    (kk : ∀ r fi fl ai al (H1 : Heap) (locs1 : List Loc), K r fi fl ai al → va_P D cl wA H1 → va_P D cl (Wd fi fl ai al) H1 → va_D A (wA ++ Wd fi fl ai al) → va_S A H0 H1 locs1 → W p l e R s m args below meth c H1 locs1 cells slots Q (F0 m (pc + 3) ls (.int r :: rest))) : W p l e R s m args below meth c H locs cells slots Q (F0 m pc ls st0) := by
  have hF := zw_free (zw_DR hD) hS hA
  refine va_calli hr hS (fun q _ h => hF q h) hF (fun r u t H1 locs1 ht hvm hw hB hz hk hS1 => ?_)
  obtain ⟨hP1, hK1, hD1⟩ := hB
  rw [ht] at hP1
  exact kk r _ _ _ _ H1 locs1 hw (zw_keepA hD hPA hk) hP1 (zw_newDB hD hPA hF hD1) hS1
theorem zw_lBl {K : Int64 → (Nat → Int32) → (Nat → Int64) → (Nat → Nat → Int32) → (Nat → Nat → Int64) → Prop} (hr : va_Run p l e R s m args below meth c H locs cells slots 0 0 (F0 m pc ls st0) rest (va_Ql (fun r (u : zw_Z) => K r u.1 u.2.1 u.2.2.1 u.2.2.2) (fun u t => zw_E D cl tys (va_A w0 H.size) (Wd u.1 u.2.1 u.2.2.1 u.2.2.2) t) (va_A w0 H.size) a) (va_A w0 H.size)) (hPA : va_P D cl wA H) (hD : va_D A (wA ++ w0)) (hS : va_S A H0 H locs) (hA : ∀ q, H0.size ≤ q → A q)
    (kk : ∀ r fi fl ai al (H1 : Heap) (locs1 : List Loc), K r fi fl ai al → va_P D cl wA H1 → va_P D cl (Wd fi fl ai al) H1 → va_D A (wA ++ Wd fi fl ai al) → va_S A H0 H1 locs1 → W p l e R s m args below meth c H1 locs1 cells slots Q (F0 m (pc + 3) ls (.long r :: rest))) : W p l e R s m args below meth c H locs cells slots Q (F0 m pc ls st0) := by
  have hF := zw_free (zw_DR hD) hS hA
  refine va_calll hr hS (fun q _ h => hF q h) hF (fun r u t H1 locs1 ht hvm hw hB hz hk hS1 => ?_)
  obtain ⟨hP1, hK1, hD1⟩ := hB
  rw [ht] at hP1
  exact kk r _ _ _ _ H1 locs1 hw (zw_keepA hD hPA hk) hP1 (zw_newDB hD hPA hF hD1) hS1
end ZWL
/-- what holds in the law between its calls -/
def La_G (p : Program) (l : Launch) (e : Env) (s : State) (m : MethodId) (below : List Frame) (meth : Method) (c : Code) (b : Nat) (dC : Nat → ClassId) (dI : Nat → Nat → Nat) (cI cJ cG cZ : ClassId) (a a' : Nat → Nat) (nc ns : Nat) (Rel : zw_Z → zw_Z → Prop) (pc k : Nat) : Prop :=
  ∀ (fi : Nat → Int32) (fl : Nat → Int64) (ai : Nat → Nat → Int32) (al : Nat → Nat → Int64) (gi : Nat → Int32) (gl : Nat → Int64) (bi : Nat → Nat → Int32) (bl : Nat → Nat → Int64) (H : Heap) (locs : List Loc) (ls : Array Slot), Rel (fi, fl, ai, al) (gi, gl, bi, bl) → va_P (dC, dI) vwCl (cw cI cJ cG cZ a fi fl ai al) H → va_P (dC, dI) vwCl (mw cI cJ cG cZ a' gi gl bi bl) H → va_D (fun q : Nat => s.heap.size ≤ q) (cw cI cJ cG cZ a fi fl ai al ++ mw cI cJ cG cZ a' gi gl bi bl) → va_S (fun q : Nat => s.heap.size ≤ q) s.heap H locs → lv_has ls 4 [(0, .ref b), (1, .ref (a 0)), (2, .ref (a' 0)), (3, .int (nI k))] → W p l e room_1 s m #[Value.ref b] below meth c H locs nc ns (lw_Z below #[Value.ref b] s) (F0 m pc ls [])
theorem La_in {k j L : Nat} (h : k + j < L) (hL : L ≤ 2561) : vp_in (nI k + nI j) L := by
  rw [nI_add]; exact vp_in_nI h (by omega)
theorem La_le {k L : Nat} (hL : L ≤ 2561) (hk : k < 2 ^ 30) (h : ¬ Int32.ofNat L - (5 : Int32) < nI k) : k + 5 ≤ L := by
  rw [Int32.lt_iff_toInt_lt] at h
  have e : (Int32.ofNat L - (5 : Int32)).toInt = (L : Int) - 5 := pk_sub_toInt (a := L) (b := 5) (by omega) (by decide)
  rw [e, nI_toInt (by omega)] at h
  omega
/-- part: both answer alike, and stay alike -/
def st_part (Rel : zw_Z → zw_Z → Prop) : Prop := ∀ (fi : Nat → Int32) (fl : Nat → Int64) (ai : Nat → Nat → Int32) (al : Nat → Nat → Int64) (gi : Nat → Int32) (gl : Nat → Int64) (bi : Nat → Nat → Int32) (bl : Nat → Nat → Int64) (v1 : Int32) (v2 : Int32) (v3 : Int32), Rel (fi, fl, ai, al) (gi, gl, bi, bl) → SS_part_w fi fl ai al v1 v2 v3 (fun (r : Int32) (ai' : Nat → Nat → Int32) => Mo_part_w gi gl bi bl v1 v2 v3 (fun (r' : Int32) (bi' : Nat → Nat → Int32) => r = r' ∧ Rel (fi, fl, ai', al) (gi, gl, bi', bl)))
/-- flex: both answer alike, and stay alike -/
def st_flex (Rel : zw_Z → zw_Z → Prop) : Prop := ∀ (fi : Nat → Int32) (fl : Nat → Int64) (ai : Nat → Nat → Int32) (al : Nat → Nat → Int64) (gi : Nat → Int32) (gl : Nat → Int64) (bi : Nat → Nat → Int32) (bl : Nat → Nat → Int64) (v1 : Int32) (v2 : Int32) (v3 : Int32) (v4 : Int32), Rel (fi, fl, ai, al) (gi, gl, bi, bl) → SS_flex_w fi fl ai al v1 v2 v3 v4 (fun (r : Int32) (ai' : Nat → Nat → Int32) => Mo_flex_w gi gl bi bl v1 v2 v3 v4 (fun (r' : Int32) (bi' : Nat → Nat → Int32) => r = r' ∧ Rel (fi, fl, ai', al) (gi, gl, bi', bl)))
/-- share: both answer alike, and stay alike -/
def st_share (Rel : zw_Z → zw_Z → Prop) : Prop := ∀ (fi : Nat → Int32) (fl : Nat → Int64) (ai : Nat → Nat → Int32) (al : Nat → Nat → Int64) (gi : Nat → Int32) (gl : Nat → Int64) (bi : Nat → Nat → Int32) (bl : Nat → Nat → Int64) (v1 : Int32) (v2 : Int32) (v3 : Int32), Rel (fi, fl, ai, al) (gi, gl, bi, bl) → SS_share_w fi fl ai al v1 v2 v3 (fun (r : Int32) (ai' : Nat → Nat → Int32) => Mo_share_w gi gl bi bl v1 v2 v3 (fun (r' : Int32) (bi' : Nat → Nat → Int32) => r = r' ∧ Rel (fi, fl, ai', al) (gi, gl, bi', bl)))
/-- release: both answer alike, and stay alike -/
def st_release (Rel : zw_Z → zw_Z → Prop) : Prop := ∀ (fi : Nat → Int32) (fl : Nat → Int64) (ai : Nat → Nat → Int32) (al : Nat → Nat → Int64) (gi : Nat → Int32) (gl : Nat → Int64) (bi : Nat → Nat → Int32) (bl : Nat → Nat → Int64) (v1 : Int32) (v2 : Int32) (v3 : Int32), Rel (fi, fl, ai, al) (gi, gl, bi, bl) → SS_release_w fi fl ai al v1 v2 v3 (fun (r : Int32) (ai' : Nat → Nat → Int32) => Mo_release_w gi gl bi bl v1 v2 v3 (fun (r' : Int32) (bi' : Nat → Nat → Int32) => r = r' ∧ Rel (fi, fl, ai', al) (gi, gl, bi', bl)))
/-- creep: both answer alike, and stay alike -/
def st_creep (Rel : zw_Z → zw_Z → Prop) : Prop := ∀ (fi : Nat → Int32) (fl : Nat → Int64) (ai : Nat → Nat → Int32) (al : Nat → Nat → Int64) (gi : Nat → Int32) (gl : Nat → Int64) (bi : Nat → Nat → Int32) (bl : Nat → Nat → Int64) (v1 : Int32) (v2 : Int32), Rel (fi, fl, ai, al) (gi, gl, bi, bl) → SS_creep_w fi fl ai al v1 v2 (fun (r : Int32) (fi' : Nat → Int32) (ai' : Nat → Nat → Int32) => Mo_creep_w gi gl bi bl v1 v2 (fun (r' : Int32) (gi' : Nat → Int32) (bi' : Nat → Nat → Int32) => r = r' ∧ Rel (fi', fl, ai', al) (gi', gl, bi', bl)))
/-- after: both answer alike, and stay alike -/
def st_after (Rel : zw_Z → zw_Z → Prop) : Prop := ∀ (fi : Nat → Int32) (fl : Nat → Int64) (ai : Nat → Nat → Int32) (al : Nat → Nat → Int64) (gi : Nat → Int32) (gl : Nat → Int64) (bi : Nat → Nat → Int32) (bl : Nat → Nat → Int64) (v1 : Int32) (v2 : Int32), Rel (fi, fl, ai, al) (gi, gl, bi, bl) → SS_after_w fi fl ai al v1 v2 (fun (r : Int32) (ai' : Nat → Nat → Int32) => Mo_after_w gi gl bi bl v1 v2 (fun (r' : Int32) (bi' : Nat → Nat → Int32) => r = r' ∧ Rel (fi, fl, ai', al) (gi, gl, bi', bl)))
/-- stage: both answer alike, and stay alike -/
def st_stage (Rel : zw_Z → zw_Z → Prop) : Prop := ∀ (fi : Nat → Int32) (fl : Nat → Int64) (ai : Nat → Nat → Int32) (al : Nat → Nat → Int64) (gi : Nat → Int32) (gl : Nat → Int64) (bi : Nat → Nat → Int32) (bl : Nat → Nat → Int64) (v1 : Int32), Rel (fi, fl, ai, al) (gi, gl, bi, bl) → SS_stage_w fi fl ai al v1 (fun (r : Int64) (fi' : Nat → Int32) (ai' : Nat → Nat → Int32) => Mo_stage_w gi gl bi bl v1 (fun (r' : Int64) (gi' : Nat → Int32) (bi' : Nat → Nat → Int32) => r = r' ∧ Rel (fi', fl, ai', al) (gi', gl, bi', bl)))
/-- add: both answer alike, and stay alike -/
def st_add (Rel : zw_Z → zw_Z → Prop) : Prop := ∀ (fi : Nat → Int32) (fl : Nat → Int64) (ai : Nat → Nat → Int32) (al : Nat → Nat → Int64) (gi : Nat → Int32) (gl : Nat → Int64) (bi : Nat → Nat → Int32) (bl : Nat → Nat → Int64) (v1 : Int32), Rel (fi, fl, ai, al) (gi, gl, bi, bl) → SS_add_w fi fl ai al v1 (fun (r : Int32) (fi' : Nat → Int32) (ai' : Nat → Nat → Int32) => Mo_add_w gi gl bi bl v1 (fun (r' : Int32) (gi' : Nat → Int32) (bi' : Nat → Nat → Int32) => r = r' ∧ Rel (fi', fl, ai', al) (gi', gl, bi', bl)))
/-- load: both answer alike, and stay alike -/
def st_load (Rel : zw_Z → zw_Z → Prop) : Prop := ∀ (fi : Nat → Int32) (fl : Nat → Int64) (ai : Nat → Nat → Int32) (al : Nat → Nat → Int64) (gi : Nat → Int32) (gl : Nat → Int64) (bi : Nat → Nat → Int32) (bl : Nat → Nat → Int64) (v1 : Int32) (v2 : Int32), Rel (fi, fl, ai, al) (gi, gl, bi, bl) → SS_load_w fi fl ai al v1 v2 (fun (r : Int32) (fi' : Nat → Int32) (ai' : Nat → Nat → Int32) => Mo_load_w gi gl bi bl v1 v2 (fun (r' : Int32) (gi' : Nat → Int32) (bi' : Nat → Nat → Int32) => r = r' ∧ Rel (fi', fl, ai', al) (gi', gl, bi', bl)))
/-- support: both answer alike, and stay alike -/
def st_support (Rel : zw_Z → zw_Z → Prop) : Prop := ∀ (fi : Nat → Int32) (fl : Nat → Int64) (ai : Nat → Nat → Int32) (al : Nat → Nat → Int64) (gi : Nat → Int32) (gl : Nat → Int64) (bi : Nat → Nat → Int32) (bl : Nat → Nat → Int64) (v1 : Int32) (v2 : Int32) (h2 : v2 = 0 ∨ v2 = 1), Rel (fi, fl, ai, al) (gi, gl, bi, bl) → SS_support_w fi fl ai al v1 v2 (fun (r : Int32) (fi' : Nat → Int32) (ai' : Nat → Nat → Int32) => Mo_support_w gi gl bi bl v1 v2 (fun (r' : Int32) (gi' : Nat → Int32) (bi' : Nat → Nat → Int32) => r = r' ∧ Rel (fi', fl, ai', al) (gi', gl, bi', bl)))
/-- end: both answer alike, and stay alike -/
def st_end (Rel : zw_Z → zw_Z → Prop) : Prop := ∀ (fi : Nat → Int32) (fl : Nat → Int64) (ai : Nat → Nat → Int32) (al : Nat → Nat → Int64) (gi : Nat → Int32) (gl : Nat → Int64) (bi : Nat → Nat → Int32) (bl : Nat → Nat → Int64) (v1 : Int32), Rel (fi, fl, ai, al) (gi, gl, bi, bl) → SS_end_w fi fl ai al v1 (fun (r : Int32) (fi' : Nat → Int32) => Mo_end_w gi gl bi bl v1 (fun (r' : Int32) (gi' : Nat → Int32) => r = r' ∧ Rel (fi', fl, ai, al) (gi', gl, bi, bl)))
/-- level: both answer alike, and stay alike -/
def st_level (Rel : zw_Z → zw_Z → Prop) : Prop := ∀ (fi : Nat → Int32) (fl : Nat → Int64) (ai : Nat → Nat → Int32) (al : Nat → Nat → Int64) (gi : Nat → Int32) (gl : Nat → Int64) (bi : Nat → Nat → Int32) (bl : Nat → Nat → Int64) (v1 : Int32) (v2 : Int32), Rel (fi, fl, ai, al) (gi, gl, bi, bl) → SS_level_w fi fl ai al v1 v2 (fun (r : Int64) (fi' : Nat → Int32) (ai' : Nat → Nat → Int32) (al' : Nat → Nat → Int64) => Mo_level_w gi gl bi bl v1 v2 (fun (r' : Int64) (gi' : Nat → Int32) (bi' : Nat → Nat → Int32) (bl' : Nat → Nat → Int64) => r = r' ∧ Rel (fi', fl, ai', al') (gi', gl, bi', bl')))
/-- of: both answer alike, and stay alike -/
def st_of (Rel : zw_Z → zw_Z → Prop) : Prop := ∀ (fi : Nat → Int32) (fl : Nat → Int64) (ai : Nat → Nat → Int32) (al : Nat → Nat → Int64) (gi : Nat → Int32) (gl : Nat → Int64) (bi : Nat → Nat → Int32) (bl : Nat → Nat → Int64) (v1 : Int32) (v2 : Int32), Rel (fi, fl, ai, al) (gi, gl, bi, bl) → SS_of_w fi fl ai al v1 v2 (fun (r : Int64) (fi' : Nat → Int32) (ai' : Nat → Nat → Int32) (al' : Nat → Nat → Int64) => Mo_of_w gi gl bi bl v1 v2 (fun (r' : Int64) (gi' : Nat → Int32) (bi' : Nat → Nat → Int32) (bl' : Nat → Nat → Int64) => r = r' ∧ Rel (fi', fl, ai', al') (gi', gl, bi', bl')))
/-- carries: both answer alike, and stay alike -/
def st_carries (Rel : zw_Z → zw_Z → Prop) : Prop := ∀ (fi : Nat → Int32) (fl : Nat → Int64) (ai : Nat → Nat → Int32) (al : Nat → Nat → Int64) (gi : Nat → Int32) (gl : Nat → Int64) (bi : Nat → Nat → Int32) (bl : Nat → Nat → Int64) (v1 : Int32) (v2 : Int32), Rel (fi, fl, ai, al) (gi, gl, bi, bl) → SS_carries_w fi fl ai al v1 v2 (fun (r : Int64) (fi' : Nat → Int32) (ai' : Nat → Nat → Int32) (al' : Nat → Nat → Int64) => Mo_carries_w gi gl bi bl v1 v2 (fun (r' : Int64) (gi' : Nat → Int32) (bi' : Nat → Nat → Int32) (bl' : Nat → Nat → Int64) => r = r' ∧ Rel (fi', fl, ai', al') (gi', gl, bi', bl')))
/-- survey: both answer alike, and stay alike -/
def st_survey (Rel : zw_Z → zw_Z → Prop) : Prop := ∀ (fi : Nat → Int32) (fl : Nat → Int64) (ai : Nat → Nat → Int32) (al : Nat → Nat → Int64) (gi : Nat → Int32) (gl : Nat → Int64) (bi : Nat → Nat → Int32) (bl : Nat → Nat → Int64) (v1 : Int32) (v2 : Int32) (v3 : Int32), Rel (fi, fl, ai, al) (gi, gl, bi, bl) → SS_survey_w fi fl ai al v1 v2 v3 (fun (r : Int64) (fi' : Nat → Int32) (ai' : Nat → Nat → Int32) (al' : Nat → Nat → Int64) => Mo_survey_w gi gl bi bl v1 v2 v3 (fun (r' : Int64) (gi' : Nat → Int32) (bi' : Nat → Nat → Int32) (bl' : Nat → Nat → Int64) => r = r' ∧ Rel (fi', fl, ai', al') (gi', gl, bi', bl')))
/-- most: both answer alike, and stay alike -/
def st_most (Rel : zw_Z → zw_Z → Prop) : Prop := ∀ (fi : Nat → Int32) (fl : Nat → Int64) (ai : Nat → Nat → Int32) (al : Nat → Nat → Int64) (gi : Nat → Int32) (gl : Nat → Int64) (bi : Nat → Nat → Int32) (bl : Nat → Nat → Int64) (v1 : Int32), Rel (fi, fl, ai, al) (gi, gl, bi, bl) → SS_most_w fi fl ai al v1 (fun (r : Int32) (fi' : Nat → Int32) => Mo_most_w gi gl bi bl v1 (fun (r' : Int32) (gi' : Nat → Int32) => r = r' ∧ Rel (fi', fl, ai, al) (gi', gl, bi, bl)))
/-- rule: both answer alike, and stay alike -/
def st_rule (Rel : zw_Z → zw_Z → Prop) : Prop := ∀ (fi : Nat → Int32) (fl : Nat → Int64) (ai : Nat → Nat → Int32) (al : Nat → Nat → Int64) (gi : Nat → Int32) (gl : Nat → Int64) (bi : Nat → Nat → Int32) (bl : Nat → Nat → Int64) (v1 : Int32) (v2 : Int32) (v3 : Int32) (v4 : Int32), Rel (fi, fl, ai, al) (gi, gl, bi, bl) → SS_rule_w fi fl ai al v1 v2 v3 v4 (fun (r : Int64) (fi' : Nat → Int32) (ai' : Nat → Nat → Int32) => Mo_rule_w gi gl bi bl v1 v2 v3 v4 (fun (r' : Int64) (gi' : Nat → Int32) (bi' : Nat → Nat → Int32) => r = r' ∧ Rel (fi', fl, ai', al) (gi', gl, bi', bl)))
/-- broken: both answer alike, and stay alike -/
def st_broken (Rel : zw_Z → zw_Z → Prop) : Prop := ∀ (fi : Nat → Int32) (fl : Nat → Int64) (ai : Nat → Nat → Int32) (al : Nat → Nat → Int64) (gi : Nat → Int32) (gl : Nat → Int64) (bi : Nat → Nat → Int32) (bl : Nat → Nat → Int64) (v1 : Int32), Rel (fi, fl, ai, al) (gi, gl, bi, bl) → SS_broken_w fi fl ai al v1 (fun (r : Int64) (fi' : Nat → Int32) (ai' : Nat → Nat → Int32) (al' : Nat → Nat → Int64) => Mo_broken_w gi gl bi bl v1 (fun (r' : Int64) (gi' : Nat → Int32) (bi' : Nat → Nat → Int32) (bl' : Nat → Nat → Int64) => r = r' ∧ Rel (fi', fl, ai', al') (gi', gl, bi', bl')))
/-- shift: both answer alike, and stay alike -/
def st_shift (Rel : zw_Z → zw_Z → Prop) : Prop := ∀ (fi : Nat → Int32) (fl : Nat → Int64) (ai : Nat → Nat → Int32) (al : Nat → Nat → Int64) (gi : Nat → Int32) (gl : Nat → Int64) (bi : Nat → Nat → Int32) (bl : Nat → Nat → Int64) (v1 : Int32) (v2 : Int32), Rel (fi, fl, ai, al) (gi, gl, bi, bl) → SS_shift_w fi fl ai al v1 v2 (fun (r : Int32) (fi' : Nat → Int32) (ai' : Nat → Nat → Int32) => Mo_shift_w gi gl bi bl v1 v2 (fun (r' : Int32) (gi' : Nat → Int32) (bi' : Nat → Nat → Int32) => r = r' ∧ Rel (fi', fl, ai', al) (gi', gl, bi', bl)))
/-- redo: both answer alike, and stay alike -/
def st_redo (Rel : zw_Z → zw_Z → Prop) : Prop := ∀ (fi : Nat → Int32) (fl : Nat → Int64) (ai : Nat → Nat → Int32) (al : Nat → Nat → Int64) (gi : Nat → Int32) (gl : Nat → Int64) (bi : Nat → Nat → Int32) (bl : Nat → Nat → Int64) (v1 : Int32), Rel (fi, fl, ai, al) (gi, gl, bi, bl) → SS_redo_w fi fl ai al v1 (fun (r : Int64) (fi' : Nat → Int32) (al' : Nat → Nat → Int64) => Mo_redo_w gi gl bi bl v1 (fun (r' : Int64) (gi' : Nat → Int32) (bl' : Nat → Nat → Int64) => r = r' ∧ Rel (fi', fl, ai, al') (gi', gl, bi, bl')))
/-- best: both answer alike, and stay alike -/
def st_best (Rel : zw_Z → zw_Z → Prop) : Prop := ∀ (fi : Nat → Int32) (fl : Nat → Int64) (ai : Nat → Nat → Int32) (al : Nat → Nat → Int64) (gi : Nat → Int32) (gl : Nat → Int64) (bi : Nat → Nat → Int32) (bl : Nat → Nat → Int64), Rel (fi, fl, ai, al) (gi, gl, bi, bl) → SS_best_w fi fl ai al (fun (r : Int64) (fi' : Nat → Int32) (fl' : Nat → Int64) (ai' : Nat → Nat → Int32) (al' : Nat → Nat → Int64) => Mo_best_w gi gl bi bl (fun (r' : Int64) (gi' : Nat → Int32) (bi' : Nat → Nat → Int32) (bl' : Nat → Nat → Int64) => r = r' ∧ Rel (fi', fl', ai', al') (gi', gl, bi', bl')))
/-- order: both answer alike, and stay alike -/
def st_order (Rel : zw_Z → zw_Z → Prop) : Prop := ∀ (fi : Nat → Int32) (fl : Nat → Int64) (ai : Nat → Nat → Int32) (al : Nat → Nat → Int64) (gi : Nat → Int32) (gl : Nat → Int64) (bi : Nat → Nat → Int32) (bl : Nat → Nat → Int64) (v1 : Int32), Rel (fi, fl, ai, al) (gi, gl, bi, bl) → SS_order_w fi fl ai al v1 (fun (r : Int64) => Mo_order_w gi gl bi bl v1 (fun (r' : Int64) => r = r' ∧ Rel (fi, fl, ai, al) (gi, gl, bi, bl)))
/-- told: both answer alike, and stay alike -/
def st_told (Rel : zw_Z → zw_Z → Prop) : Prop := ∀ (fi : Nat → Int32) (fl : Nat → Int64) (ai : Nat → Nat → Int32) (al : Nat → Nat → Int64) (gi : Nat → Int32) (gl : Nat → Int64) (bi : Nat → Nat → Int32) (bl : Nat → Nat → Int64) (v1 : Int32), Rel (fi, fl, ai, al) (gi, gl, bi, bl) → SS_told_w fi fl ai al v1 (fun (r : Int64) => Mo_told_w gi gl bi bl v1 (fun (r' : Int64) (gi' : Nat → Int32) (bi' : Nat → Nat → Int32) => r = r' ∧ Rel (fi, fl, ai, al) (gi', gl, bi', bl)))
/-- check: both answer alike, and stay alike -/
def st_check (Rel : zw_Z → zw_Z → Prop) : Prop := ∀ (fi : Nat → Int32) (fl : Nat → Int64) (ai : Nat → Nat → Int32) (al : Nat → Nat → Int64) (gi : Nat → Int32) (gl : Nat → Int64) (bi : Nat → Nat → Int32) (bl : Nat → Nat → Int64), Rel (fi, fl, ai, al) (gi, gl, bi, bl) → SS_check_w fi fl ai al (fun (r : Int32) (fi' : Nat → Int32) (ai' : Nat → Nat → Int32) (al' : Nat → Nat → Int64) => Mo_check_w gi gl bi bl (fun (r' : Int32) => r = r' ∧ Rel (fi', fl, ai', al') (gi, gl, bi, bl)))
