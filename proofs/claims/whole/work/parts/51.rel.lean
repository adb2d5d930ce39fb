/-! PURE: the relation of the two sides. Class: fi 0 most, 1 creeps, 2 stages, 3 acts, 4 adds, 5 toldEnd, 6 rules, 7 parts, 8 lastStage, 9 there, 10 on, 11 foundCount. Reference: gi 0 parts, 1 creepCount, 2 stages, 3 acts, 4 toldEnd, 5 most, 6 rules, 7 orderSize, 8 takenSize -/
def cnt (kd : Nat → Int32) : Nat → Nat
  | 0 => 0
  | a + 1 => cnt kd a + (if kd a = 0 then 1 else 0)
/-- numbers -/
def Rn (p nc ns na nd nr no : Nat) : Prop := 2 ≤ p ∧ p ≤ 6 ∧ nc ≤ 8 ∧ ns ≤ 12 ∧ na ≤ 40 ∧ nd ≤ 6 ∧ nr ≤ 8 ∧ no ≤ 6
/-- fields -/
def Rc (p nc ns na nd nr no : Nat) (fi gi : Nat → Int32) : Prop :=
  fi 7 = nI p ∧ gi 0 = nI p ∧ fi 1 = nI nc ∧ gi 1 = nI nc ∧ fi 2 = nI ns ∧ gi 2 = nI ns ∧ fi 3 = nI na ∧ gi 3 = nI na ∧ fi 4 = nI nd ∧ fi 6 = nI nr ∧ gi 6 = nI nr ∧ fi 11 = nI no ∧ gi 7 = nI no ∧ fi 5 = gi 4 ∧ fi 0 = gi 5 ∧ isR 0 1000 (fi 0)
/-- weights, wanted levels, flexes, shares, releases -/
def Rg (ai bi : Nat → Nat → Int32) : Prop :=
  (∀ i, i < 6 → bi 1 i = ai 20 i ∧ isR 0 1000 (ai 20 i)) ∧ (∀ i, i < 6 → bi 2 i = ai 21 i) ∧
  (∀ s i j, s < 8 → i < 6 → j < 6 → bi 3 (36 * s + 6 * i + j) = ai (23 + s) (6 * i + j)) ∧
  (∀ k j, k < 3 → j < 6 → bi 4 (6 * k + j) = ai (32 + k) j ∧ isR (-1000) 1000 (ai (32 + k) j)) ∧
  (∀ k j, k < 3 → j < 6 → bi 5 (6 * k + j) = ai (36 + k) j)
/-- creep -/
def Rk (nc : Nat) (ai bi : Nat → Nat → Int32) : Prop :=
  (∀ k, k < nc → bi 6 k = ai 2 k ∧ bi 7 k = ai 3 k ∧ isR 0 5000 (ai 3 k)) ∧ (∀ k, k + 1 < nc → (ai 2 k).toInt < (ai 2 (k + 1)).toInt)
/-- days -/
def Rd (ns : Nat) (ai bi : Nat → Nat → Int32) : Prop :=
  (∀ k, k < ns → bi 9 k = ai 5 k ∧ isR 0 20000 (ai 5 k)) ∧ (∀ k, k + 1 < ns → (ai 5 k).toInt < (ai 5 (k + 1)).toInt)
/-- acts -/
def Ra (p ns na : Nat) (ai bi : Nat → Nat → Int32) : Prop :=
  (∀ a, a < na → bi 10 a = ai 6 a ∧ bi 11 a = ai 7 a ∧ bi 12 a = ai 8 a ∧ bi 13 a = ai 9 a ∧ isP ns (ai 9 a) ∧
    ((ai 6 a = 0 ∧ isP p (ai 7 a)) ∨ (ai 6 a = 1 ∧ isP p (ai 7 a) ∧ isR (-1000) 1000 (ai 8 a)) ∨ (ai 6 a = 2 ∧ isP 3 (ai 7 a)) ∨ (ai 6 a = 3 ∧ isP 3 (ai 7 a)))) ∧
  (∀ a, a + 1 < na → (ai 9 a).toInt ≤ (ai 9 (a + 1)).toInt)
/-- the row of added parts -/
def Rw (na nd : Nat) (ai : Nat → Nat → Int32) : Prop :=
  nd = cnt (ai 6) na ∧ (∀ a, a < na → ai 6 a = 0 → ai 10 (cnt (ai 6) a) = ai 7 a ∧ ai 11 (cnt (ai 6) a) = ai 9 a) ∧
  (∀ j k, j < nd → k < nd → ai 10 j = ai 10 k → j = k) ∧ (∀ a, a < na → ai 6 a = 1 → ∃ k, k < cnt (ai 6) a ∧ ai 10 k = ai 7 a)
/-- part y must come after part x, as the reference holds it -/
def Ed (bi : Nat → Nat → Int32) (x y : Nat) : Prop := x < 6 ∧ y < 6 ∧ ¬ bi 8 (6 * x + y) = 0
/-- over others too -/
def Rh (bi : Nat → Nat → Int32) : Nat → Nat → Prop := Relation.TransGen (Ed bi)
/-- what must come after what, and the plan keeps it -/
def Rf (p nd : Nat) (ai bi : Nat → Nat → Int32) : Prop :=
  (∀ k, k < 36 → bi 8 k = 0 ∨ bi 8 k = 1) ∧ (∀ x y, Ed bi x y → x < p ∧ y < p ∧ x ≠ y) ∧
  (∀ x y, x < 6 → y < 6 → (bt (ai 39 y) x = true ↔ Rh bi x y)) ∧ (∀ y i, y < 6 → 6 ≤ i → bt (ai 39 y) i = false) ∧
  (∀ x, ¬ Rh bi x x) ∧
  (∀ x y, Ed bi x y → ∀ k, k < nd → ai 10 k = nI y → ∃ j, j < k ∧ ai 10 j = nI x)
/-- the told end day -/
def Re (ns : Nat) (fi : Nat → Int32) (ai : Nat → Nat → Int32) : Prop :=
  fi 5 = -1 ∨ (0 < ns ∧ (ai 5 (ns - 1)).toInt ≤ (fi 5).toInt ∧ (fi 5).toInt ≤ 40000)
/-- offsets -/
def Ro (al bl : Nat → Nat → Int64) : Prop := ∀ i, i < 6 → bl 14 i = al 17 i
/-- rules -/
def Rr (p nr : Nat) (ai bi : Nat → Nat → Int32) : Prop :=
  ∀ r, r < nr → bi 15 r = ai 13 r ∧ bi 16 r = ai 14 r ∧ bi 17 r = ai 15 r ∧ bi 18 r = ai 16 r ∧
    ((ai 13 r = 0 ∧ isP p (ai 14 r)) ∨ (ai 13 r = 1 ∧ isP (p - 1) (ai 14 r)) ∨ (ai 13 r = 2 ∧ isP 3 (ai 14 r)))
/-- the order that was found -/
def Rq (no : Nat) (ai bi : Nat → Nat → Int32) : Prop := ∀ k, k < no → bi 19 k = ai 60 k
def RlN (p nc ns na nd nr no : Nat) (fi : Nat → Int32) (ai : Nat → Nat → Int32) (al : Nat → Nat → Int64) (gi : Nat → Int32) (bi : Nat → Nat → Int32) (bl : Nat → Nat → Int64) : Prop :=
  Rn p nc ns na nd nr no ∧ Rc p nc ns na nd nr no fi gi ∧ Rg ai bi ∧ Rk nc ai bi ∧ Rd ns ai bi ∧ Ra p ns na ai bi ∧ Rw na nd ai ∧ Rf p nd ai bi ∧ Re ns fi ai ∧ Ro al bl ∧ Rr p nr ai bi ∧ Rq no ai bi
def Rl (x y : zw_Z) : Prop := ∃ p nc ns na nd nr no : Nat, RlN p nc ns na nd nr no x.1 x.2.2.1 x.2.2.2 y.1 y.2.2.1 y.2.2.2
theorem Rl.i {fi gi : Nat → Int32} {fl gl : Nat → Int64} {ai bi : Nat → Nat → Int32} {al bl : Nat → Nat → Int64} (p nc ns na nd nr no : Nat) (h : RlN p nc ns na nd nr no fi ai al gi bi bl) : Rl (fi, fl, ai, al) (gi, gl, bi, bl) := ⟨p, nc, ns, na, nd, nr, no, h⟩
theorem Rl.e {fi gi : Nat → Int32} {fl gl : Nat → Int64} {ai bi : Nat → Nat → Int32} {al bl : Nat → Nat → Int64} (h : Rl (fi, fl, ai, al) (gi, gl, bi, bl)) : ∃ p nc ns na nd nr no : Nat, RlN p nc ns na nd nr no fi ai al gi bi bl := h
/-! a block speaks of its own arrays alone -/
section CG
variable {p nc ns na nd nr no : Nat} {fi fi' gi gi' : Nat → Int32} {ai ai' bi bi' : Nat → Nat → Int32}
theorem Rg.c (h : Rg ai bi) (ha : ∀ q, 20 ≤ q → q < 39 → ai' q = ai q) (hb : ∀ q, 1 ≤ q → q < 6 → bi' q = bi q) : Rg ai' bi' := by
  obtain ⟨h1, h2, h3, h4, h5⟩ := h
  refine ⟨fun i hi => ?_, fun i hi => ?_, fun s i j hs hi hj => ?_, fun k j hk hj => ?_, fun k j hk hj => ?_⟩
  · rw [hb 1 (by omega) (by omega), ha 20 (by omega) (by omega)]; exact h1 i hi
  · rw [hb 2 (by omega) (by omega), ha 21 (by omega) (by omega)]; exact h2 i hi
  · rw [hb 3 (by omega) (by omega), ha (23 + s) (by omega) (by omega)]; exact h3 s i j hs hi hj
  · rw [hb 4 (by omega) (by omega), ha (32 + k) (by omega) (by omega)]; exact h4 k j hk hj
  · rw [hb 5 (by omega) (by omega), ha (36 + k) (by omega) (by omega)]; exact h5 k j hk hj
theorem Rk.c (h : Rk nc ai bi) (h2 : ai' 2 = ai 2) (h3 : ai' 3 = ai 3) (h6 : bi' 6 = bi 6) (h7 : bi' 7 = bi 7) : Rk nc ai' bi' := by
  unfold Rk at *
  rw [h2, h3, h6, h7]; exact h
theorem Rd.c (h : Rd ns ai bi) (h5 : ai' 5 = ai 5) (h9 : bi' 9 = bi 9) : Rd ns ai' bi' := by
  unfold Rd at *
  rw [h5, h9]; exact h
theorem Ra.c (h : Ra p ns na ai bi) (h6 : ai' 6 = ai 6) (h7 : ai' 7 = ai 7) (h8 : ai' 8 = ai 8) (h9 : ai' 9 = ai 9) (g0 : bi' 10 = bi 10) (g1 : bi' 11 = bi 11) (g2 : bi' 12 = bi 12) (g3 : bi' 13 = bi 13) : Ra p ns na ai' bi' := by
  unfold Ra at *
  rw [h6, h7, h8, h9, g0, g1, g2, g3]; exact h
theorem Rw.c (h : Rw na nd ai) (h6 : ai' 6 = ai 6) (h7 : ai' 7 = ai 7) (h9 : ai' 9 = ai 9) (h10 : ai' 10 = ai 10) (h11 : ai' 11 = ai 11) : Rw na nd ai' := by
  unfold Rw at *
  rw [h6, h7, h9, h10, h11]; exact h
theorem Ed.c {x y : Nat} (h8 : bi' 8 = bi 8) : Ed bi' x y ↔ Ed bi x y := by unfold Ed; rw [h8]
theorem Ed.e (h8 : bi' 8 = bi 8) : Ed bi' = Ed bi := by
  funext x y
  exact propext (Ed.c h8)
theorem Rf.c (h : Rf p nd ai bi) (h39 : ai' 39 = ai 39) (h10 : ai' 10 = ai 10) (h8 : bi' 8 = bi 8) : Rf p nd ai' bi' := by
  unfold Rf Rh at *
  rw [h39, h10, Ed.e h8, h8]; exact h
theorem Re.c (h : Re ns fi ai) (hf : fi' 5 = fi 5) (h5 : ai' 5 = ai 5) : Re ns fi' ai' := by
  unfold Re at *
  rw [hf, h5]; exact h
theorem Rr.c (h : Rr p nr ai bi) (h13 : ai' 13 = ai 13) (h14 : ai' 14 = ai 14) (h15 : ai' 15 = ai 15) (h16 : ai' 16 = ai 16) (g15 : bi' 15 = bi 15) (g16 : bi' 16 = bi 16) (g17 : bi' 17 = bi 17) (g18 : bi' 18 = bi 18) : Rr p nr ai' bi' := by
  unfold Rr at *
  rw [h13, h14, h15, h16, g15, g16, g17, g18]; exact h
theorem Rq.c (h : Rq no ai bi) (h60 : ai' 60 = ai 60) (g19 : bi' 19 = bi 19) : Rq no ai' bi' := by
  unfold Rq at *
  rw [h60, g19]; exact h
theorem Ro.c {al al' bl bl' : Nat → Nat → Int64} (h : Ro al bl) (h17 : al' 17 = al 17) (g14 : bl' 14 = bl 14) : Ro al' bl' := by
  unfold Ro at *
  rw [h17, g14]; exact h
end CG
/-- only scratch of the class has changed -/
def Kc (fi : Nat → Int32) (ai : Nat → Nat → Int32) (al : Nat → Nat → Int64) (fi' : Nat → Int32) (ai' : Nat → Nat → Int32) (al' : Nat → Nat → Int64) : Prop :=
  (∀ k, k < 8 ∨ k = 11 → fi' k = fi k) ∧ (∀ q, q < 43 ∨ q = 60 → ai' q = ai q) ∧ al' 17 = al 17
/-- only scratch of the reference has changed -/
def Km (gi : Nat → Int32) (bi : Nat → Nat → Int32) (bl : Nat → Nat → Int64) (gi' : Nat → Int32) (bi' : Nat → Nat → Int32) (bl' : Nat → Nat → Int64) : Prop :=
  (∀ k, k < 8 → gi' k = gi k) ∧ (∀ q, q < 20 → bi' q = bi q) ∧ bl' 14 = bl 14
theorem Kc.rf {fi : Nat → Int32} {ai : Nat → Nat → Int32} {al : Nat → Nat → Int64} : Kc fi ai al fi ai al := ⟨fun _ _ => rfl, fun _ _ => rfl, rfl⟩
theorem Km.rf {fi : Nat → Int32} {ai : Nat → Nat → Int32} {al : Nat → Nat → Int64} : Km fi ai al fi ai al := ⟨fun _ _ => rfl, fun _ _ => rfl, rfl⟩
theorem Kc.tr {f1 f2 f3 : Nat → Int32} {a1 a2 a3 : Nat → Nat → Int32} {l1 l2 l3 : Nat → Nat → Int64} (h : Kc f1 a1 l1 f2 a2 l2) (g : Kc f2 a2 l2 f3 a3 l3) : Kc f1 a1 l1 f3 a3 l3 :=
  ⟨fun k hk => (g.1 k hk).trans (h.1 k hk), fun q hq => (g.2.1 q hq).trans (h.2.1 q hq), g.2.2.trans h.2.2⟩
theorem Km.tr {f1 f2 f3 : Nat → Int32} {a1 a2 a3 : Nat → Nat → Int32} {l1 l2 l3 : Nat → Nat → Int64} (h : Km f1 a1 l1 f2 a2 l2) (g : Km f2 a2 l2 f3 a3 l3) : Km f1 a1 l1 f3 a3 l3 :=
  ⟨fun k hk => (g.1 k hk).trans (h.1 k hk), fun q hq => (g.2.1 q hq).trans (h.2.1 q hq), g.2.2.trans h.2.2⟩
theorem RlN.keep {p nc ns na nd nr no : Nat} {fi gi fi' gi' : Nat → Int32} {ai bi ai' bi' : Nat → Nat → Int32} {al bl al' bl' : Nat → Nat → Int64} (h : RlN p nc ns na nd nr no fi ai al gi bi bl) (hc : Kc fi ai al fi' ai' al') (hm : Km gi bi bl gi' bi' bl') : RlN p nc ns na nd nr no fi' ai' al' gi' bi' bl' := by
  obtain ⟨hn, hC, hg, hk, hd, ha, hw, hf, he, ho, hr, hq⟩ := h
  obtain ⟨f1, f2, f3⟩ := hc
  obtain ⟨g1, g2, g3⟩ := hm
  have A : ∀ q, q < 43 → ai' q = ai q := fun q h => f2 q (Or.inl h)
  refine ⟨hn, ?_, hg.c (fun q h1 h2 => A q (by omega)) (fun q h1 h2 => g2 q (by omega)), hk.c (A 2 (by omega)) (A 3 (by omega)) (g2 6 (by omega)) (g2 7 (by omega)), hd.c (A 5 (by omega)) (g2 9 (by omega)), ha.c (A 6 (by omega)) (A 7 (by omega)) (A 8 (by omega)) (A 9 (by omega)) (g2 10 (by omega)) (g2 11 (by omega)) (g2 12 (by omega)) (g2 13 (by omega)), hw.c (A 6 (by omega)) (A 7 (by omega)) (A 9 (by omega)) (A 10 (by omega)) (A 11 (by omega)), hf.c (A 39 (by omega)) (A 10 (by omega)) (g2 8 (by omega)), he.c (f1 5 (Or.inl (by omega))) (A 5 (by omega)), ho.c f3 g3, hr.c (A 13 (by omega)) (A 14 (by omega)) (A 15 (by omega)) (A 16 (by omega)) (g2 15 (by omega)) (g2 16 (by omega)) (g2 17 (by omega)) (g2 18 (by omega)), hq.c (f2 60 (Or.inr rfl)) (g2 19 (by omega))⟩
  unfold Rc at *
  rw [f1 7 (Or.inl (by omega)), f1 1 (Or.inl (by omega)), f1 2 (Or.inl (by omega)), f1 3 (Or.inl (by omega)), f1 4 (Or.inl (by omega)), f1 6 (Or.inl (by omega)), f1 11 (Or.inr rfl), f1 5 (Or.inl (by omega)), f1 0 (Or.inl (by omega)), g1 0 (by omega), g1 1 (by omega), g1 2 (by omega), g1 3 (by omega), g1 6 (by omega), g1 7 (by omega), g1 4 (by omega), g1 5 (by omega)]
  exact hC
