/-! PURE: the class's casts, walks, heights -/
/-- where a walk up to stage l stops -/
def Sp (A : Nat → Nat → Int32) (na : Nat) (l : Int32) (n : Nat) : Prop := n ≤ na ∧ (∀ b, b < n → ¬ l < A 9 b) ∧ (n = na ∨ l < A 9 n)
theorem Sp.uniq {A : Nat → Nat → Int32} {na n m : Nat} {l : Int32} (h : Sp A na l n) (g : Sp A na l m) : n = m := by
  obtain ⟨h1, h2, h3⟩ := h
  obtain ⟨g1, g2, g3⟩ := g
  rcases Nat.lt_trichotomy n m with q | q | q
  · rcases h3 with z | z
    · omega
    · exact absurd z (g2 n q)
  · exact q
  · rcases g3 with z | z
    · omega
    · exact absurd z (h2 m q)
/-- the last day of the plan -/
def edA (fi : Nat → Int32) (A : Nat → Nat → Int32) (ns : Nat) : Int32 := if fi 5 = -1 then A 5 (ns - 1) else fi 5
/-- what casts and walks leave as it was -/
def Kw (fi : Nat → Int32) (ai : Nat → Nat → Int32) (al : Nat → Nat → Int64) (fi' : Nat → Int32) (ai' : Nat → Nat → Int32) (al' : Nat → Nat → Int64) : Prop :=
  (∀ k, k < 8 ∨ k = 11 → fi' k = fi k) ∧ (∀ q, q < 43 ∨ 58 ≤ q → ai' q = ai q) ∧ (∀ q, q ≠ 41 → q ≠ 42 → q ≠ 18 → al' q = al q)
theorem Kw.rf {fi : Nat → Int32} {ai : Nat → Nat → Int32} {al : Nat → Nat → Int64} : Kw fi ai al fi ai al := ⟨fun _ _ => rfl, fun _ _ => rfl, fun _ _ _ _ => rfl⟩
theorem Kw.tr {f1 f2 f3 : Nat → Int32} {a1 a2 a3 : Nat → Nat → Int32} {l1 l2 l3 : Nat → Nat → Int64} (h : Kw f1 a1 l1 f2 a2 l2) (g : Kw f2 a2 l2 f3 a3 l3) : Kw f1 a1 l1 f3 a3 l3 :=
  ⟨fun k hk => (g.1 k hk).trans (h.1 k hk), fun q hq => (g.2.1 q hq).trans (h.2.1 q hq), fun q h1 h2 h3 => (g.2.2 q h1 h2 h3).trans (h.2.2 q h1 h2 h3)⟩
theorem Kw.kc {fi : Nat → Int32} {ai : Nat → Nat → Int32} {al : Nat → Nat → Int64} {fi' : Nat → Int32} {ai' : Nat → Nat → Int32} {al' : Nat → Nat → Int64} (h : Kw fi ai al fi' ai' al') : Kc fi ai al fi' ai' al' :=
  ⟨h.1, fun q hq => h.2.1 q (by omega), h.2.2 17 (by decide) (by decide) (by decide)⟩
section CS
variable {fi fi0 gi : Nat → Int32} {fl : Nat → Int64} {ai A bi : Nat → Nat → Int32} {al al0 bl : Nat → Nat → Int64} {p nc ns na nd nr no : Nat} {D : Int32}
theorem RlN.loads (hN : RlN p nc ns na nd nr no fi0 A al0 gi bi bl) {b : Nat} (hb : b < na) (e : A 6 b = 1) : hasR (A 10) (A 7 b) (cnt (A 6) b) = true := by
  obtain ⟨hn, hC, hg, hk, hd, ha, hw, hf, he, ho, hr, hq⟩ := hN
  exact (hasR_i _).mpr (hw.2.2.2 b hb e)
theorem Pl_endDay_x {K : Int32 → Prop} (hN : RlN p nc ns na nd nr no fi A al gi bi bl) (hy : ∀ D, (0 < ns → D = edA fi A ns) → K D) : Pl_endDay_w fi fl A al K := by
  obtain ⟨hn, hC, hg, hk, hd, ha, hw, hf, he, ho, hr, hq⟩ := id hN
  obtain ⟨n1, n2, n3, n4, n5, n6, n7, n8⟩ := id hn
  obtain ⟨c7, g0, c1, g1, c2, g2, c3, g3, c4, c6, g6, c11, g7, c5, c0, c0r⟩ := id hC
  rcases Nat.eq_zero_or_pos ns with z | z
  · unfold Pl_endDay_w
    refine Pl_lastDay_s c2 n4 ?_
    unfold zw_nm
    exact hy _ (fun q => by omega)
  · refine Pl_endDay_s c2 n4 z (hd.1 (ns - 1) (by omega)).2.1 ?_ (hy _ (fun _ => rfl))
    rcases he with e | e
    · exact Or.inl e
    · exact Or.inr e.2.1
theorem SS_castAll_s {K : (Nat → Int32) → (Nat → Nat → Int32) → (Nat → Nat → Int64) → Prop} (hN : RlN p nc ns na nd nr no fi A al gi bi bl)
    (hy : ∀ fi' ai' al', Kw fi A al fi' ai' al' → (∀ i k, i < p → k < nd → A 10 k = nI i → al' 41 i = rsA A (A 10) nc (edA fi A ns) (A 11 k) i na ∧ al' 18 i = (A 21 i).toInt64 * 1000000000 - rsA A (A 10) nc (edA fi A ns) (A 11 k) i na + al 17 i) → K fi' ai' al') : SS_castAll_w fi fl A al K := by
  obtain ⟨hn, hC, hg, hk, hd, ha, hw, hf, he, ho, hr, hq⟩ := id hN
  obtain ⟨n1, n2, n3, n4, n5, n6, n7, n8⟩ := id hn
  obtain ⟨c7, g0, c1, g1, c2, g2, c3, g3, c4, c6, g6, c11, g7, c5, c0, c0r⟩ := id hC
  unfold SS_castAll_w
  refine Pl_endDay_x hN (fun D hD => Wa_aim_s (A := A) c1 n3 c2 n4 hk rfl rfl rfl (fun ai1 f1 f2 f3 => ?_))
  refine Wa_go_s (A := A) (D := D) (Or.inl rfl) hN (fun k hk2 => va_n _ _ (by omega)) (fun q hq2 => f1 q (by omega)) f2 f3 (fun k hk2 => by rw [f1 10 (by omega)]; exact hN.rowP k hk2) (fun j k => by rw [f1 10 (by omega)]; exact hw.2.2.1 j k) (fun fi2 ai2 al2 n wf ad z1 z2 z3 z4 z5 => ?_) (fun fi2 ai2 al2 b wf z1 z2 z3 => absurd (hN.loads z1 z2) (by rw [f1 10 (by omega)] at z3; exact z3))
  rw [f1 10 (by omega)] at z5
  have en : n = na := by
    rcases Nat.lt_or_ge n na with q2 | q2
    · exfalso
      rcases z3 with q | q
      · omega
      · rw [va_s, c2] at q
        have st := (ha.1 n q2).2.2.2.2.1
        rw [i_lt, nI_s1 (by unfold isP at st; omega), nT (by omega)] at q
        unfold isP at st
        omega
    · omega
  subst en
  have dd : ∀ k, k < nd → D = edA fi A ns := fun k hk2 => by
    obtain ⟨a, a1, a2, a3, a4, a5⟩ := hN.row11 hk2
    exact hD (by unfold isP at a5; omega)
  have fi7 : fi2 7 = nI p := by rw [wf.1 7 (by omega) (by omega), va_n _ _ (show 7 ≠ 8 by omega)]; exact c7
  have a21 : ai2 21 = A 21 := (wf.2.1 21 (by omega)).trans (f1 21 (by omega))
  have kw : Kw fi A al fi2 ai2 al2 := ⟨fun k hk2 => by rw [wf.1 k (by omega) (by omega), va_n _ _ (show k ≠ 8 by omega)], fun q hq2 => (wf.2.1 q (by omega)).trans (f1 q (by omega)), fun q h1 h2 _ => wf.2.2 q h1 h2⟩
  simp only [zw_nm]
  rw [fi7, a21]
  refine lp2_c p (by omega) (fun m al' => (∀ q, q ≠ 18 → al' q = al2 q) ∧ (∀ i, i < m → al' 18 i = (A 21 i).toInt64 * 1000000000 - al2 41 i + al 17 i)) (fun L m al3 hm hI hL => ?_) 0 al2 (by omega) ⟨fun _ _ => rfl, fun i h => absurd h (Nat.not_lt_zero _)⟩
  obtain ⟨i1, i2⟩ := hI
  refine br_n (by omega) (by omega) (fun q => ?_) (fun q => ⟨vp_in_nI (by omega) (by omega), vp_in_nI (by omega) (by omega), vp_in_nI (by omega) (by omega), vp_in_nI (by omega) (by omega), ?_⟩)
  · refine hy fi2 ai2 al3 (kw.tr ⟨fun _ _ => rfl, fun _ _ => rfl, fun q _ _ h3 => i1 q h3⟩) (fun i k hi hk2 e => ?_)
    have := z5.2.2.2 i k hi hk2 e
    rw [dd k hk2] at this
    refine ⟨by rw [i1 41 (by omega)]; exact this, by rw [i2 i (by omega), this]⟩
  · rw [nC (by omega), nI_p1]
    refine hL _ q ⟨fun r hr2 => by rw [va_n _ _ hr2]; exact i1 r hr2, fun i hi => ?_⟩
    rw [va_s]
    by_cases z : i = m
    · rw [z, pk_uLs, i1 41 (by omega), i1 17 (by omega), wf.2.2 17 (by omega) (by omega)]
    · rw [pk_uLn z]; exact i2 i (by omega)
theorem SS_walkTo_s {K : (Nat → Int32) → (Nat → Nat → Int32) → (Nat → Nat → Int64) → Prop} {s : Nat} (hN : RlN p nc ns na nd nr no fi0 A al0 gi bi bl) (hK : Kw fi0 A al0 fi ai al) (hs : s < ns)
    (hy : ∀ fi' ai' al' n, Kw fi ai al fi' ai' al' → al' 18 = al 18 → Sp A na (nI s) n → (∀ k, k < 3 → al' 42 k = carA A (A 10) k n) → (∀ i k, i < p → k < nd → A 10 k = nI i → al' 41 i = rsA A (A 10) nc (A 5 s) (A 11 k) i n) → K fi' ai' al') : SS_walkTo_w fi fl ai al (nI s) K := by
  obtain ⟨hn, hC, hg, hk, hd, ha, hw, hf, he, ho, hr, hq⟩ := id hN
  obtain ⟨n1, n2, n3, n4, n5, n6, n7, n8⟩ := id hn
  obtain ⟨c7, g0, c1, g1, c2, g2, c3, g3, c4, c6, g6, c11, g7, c5, c0, c0r⟩ := id hC
  unfold SS_walkTo_w
  rw [nC (by omega), hK.2.1 5 (by omega)]
  refine ⟨vp_in_nI (by omega) (by omega), Wa_aim_s (A := A) ((hK.1 1 (by omega)).trans c1) n3 ((hK.1 2 (by omega)).trans c2) n4 hk (hK.2.1 2 (by omega)) (hK.2.1 3 (by omega)) (hK.2.1 5 (by omega)) (fun ai1 f1 f2 f3 => ?_)⟩
  have A1 : ∀ q, q < 43 → ai1 q = A q := fun q hq2 => (f1 q (by omega)).trans (hK.2.1 q (by omega))
  refine Wa_go_s (A := A) (D := A 5 s) (Or.inl rfl) hN (fun k hk2 => (va_n _ _ (by omega)).trans (hK.1 k (by omega))) A1 f2 f3 (fun k hk2 => by rw [A1 10 (by omega)]; exact hN.rowP k hk2) (fun j k => by rw [A1 10 (by omega)]; exact hw.2.2.1 j k) (fun fi2 ai2 al2 n wf ad z1 z2 z3 z4 z5 => ?_) (fun fi2 ai2 al2 b wf z1 z2 z3 => absurd (hN.loads z1 z2) (by rw [A1 10 (by omega)] at z3; exact z3))
  rw [A1 10 (by omega)] at z5
  rw [va_s] at z2 z3
  have kw : Kw fi ai al fi2 ai2 al2 := ⟨fun k hk2 => by rw [wf.1 k (by omega) (by omega), va_n _ _ (show k ≠ 8 by omega)], fun q hq2 => (wf.2.1 q (by omega)).trans (f1 q (by omega)), fun q h1 h2 _ => wf.2.2 q h1 h2⟩
  exact hy fi2 ai2 al2 n kw (wf.2.2 18 (by omega) (by omega)) ⟨z1, z2, z3⟩ z5.2.2.1 z5.2.2.2
theorem SS_heightNow_s {K : Int64 → Prop} {i : Nat} (hi : i < 6) (h : K (al 18 i + al 41 i)) : SS_heightNow_w fi fl ai al (nI i) K := by
  unfold SS_heightNow_w
  rw [nC (by omega)]
  exact ⟨vp_in_nI (by omega) (by omega), vp_in_nI (by omega) (by omega), h⟩
/-- whether part x is there in stage y -/
def thA (A : Nat → Nat → Int32) (p ns nd : Nat) (x y : Int32) : Prop := ∃ i k, i < p ∧ k < nd ∧ x = nI i ∧ A 10 k = nI i ∧ isP ns y ∧ (A 11 k).toInt ≤ y.toInt
theorem SS_isThere_s {K : Int32 → Prop} {x y : Int32} (hN : RlN p nc ns na nd nr no fi0 A al0 gi bi bl) (hK : Kw fi0 A al0 fi ai al) (hy : thA A p ns nd x y → K 1) (hno : ¬ thA A p ns nd x y → K 0) : SS_isThere_w fi fl ai al x y K := by
  obtain ⟨hn, hC, hg, hk, hd, ha, hw, hf, he, ho, hr, hq⟩ := id hN
  obtain ⟨n1, n2, n3, n4, n5, n6, n7, n8⟩ := id hn
  obtain ⟨c7, g0, c1, g1, c2, g2, c3, g3, c4, c6, g6, c11, g7, c5, c0, c0r⟩ := id hC
  unfold SS_isThere_w
  refine Gi_hasPart_s ((hK.1 7 (by omega)).trans c7) n2 (br_b (fun e1 => ?_) (fun e1 => hno (fun ⟨i, k, q1, q2, q3, _⟩ => e1 (by rw [q3]; exact isP_nI q1 (by omega)))))
  obtain ⟨i, hi, hi2, rfl⟩ := isP_of e1
  refine Pl_hasStage_s ((hK.1 2 (by omega)).trans c2) n4 (br_b (fun e2 => ?_) (fun e2 => hno (fun ⟨i, k, q1, q2, q3, q4, q5, _⟩ => e2 q5)))
  refine Pl_stageOf_s ((hK.1 4 (by omega)).trans c4) n6 (fun k hk2 ek _ => ?_) (fun e3 => ?_)
  · rw [hK.2.1 10 (by omega)] at ek
    rw [hK.2.1 11 (by omega)]
    obtain ⟨a, a1, a2, a3, a4, a5⟩ := hN.row11 hk2
    rw [if_neg (show ¬ A 11 k < 0 by rw [i_lt, a4, show (0 : Int32).toInt = 0 from rfl]; unfold isP at a5; omega)]
    refine br_i i_lt (fun e4 => hno (fun ⟨i', k', q1, q2, q3, q4, q5, q6⟩ => ?_)) (fun e4 => hy ⟨i, k, hi, hk2, rfl, ek, e2, by omega⟩)
    obtain rfl : i = i' := nI_inj (by omega) (by omega) q3
    obtain rfl : k' = k := hw.2.2.1 k' k q2 hk2 (q4.trans ek.symm)
    omega
  · rw [hK.2.1 10 (by omega)] at e3
    rw [if_pos (by decide)]
    refine hno (fun ⟨i', k', q1, q2, q3, q4, q5, q6⟩ => ?_)
    obtain rfl : i = i' := nI_inj (by omega) (by omega) q3
    exact e3 k' q2 q4
end CS
