/-! PURE: survey -/
theorem mi32 : (-1000000 : Int32).toInt = -1000000 := by decide
theorem pl32 : (1000000 : Int32).toInt = 1000000 := by decide
theorem mi64 : (-1000000 : Int64).toInt = -1000000 := by decide
theorem pl64 : (1000000 : Int64).toInt = 1000000 := by decide
/-- the height of part i, the k-th of the row, in stage s, when n acts are done -/
def lvA (fi : Nat → Int32) (A : Nat → Nat → Int32) (al : Nat → Nat → Int64) (nc ns na i k s n : Nat) : Int64 := (A 21 i).toInt64 * 1000000000 - rsA A (A 10) nc (edA fi A ns) (A 11 k) i na + al 17 i + rsA A (A 10) nc (A 5 s) (A 11 k) i n
theorem nm_i {α : Type} {e : α} {F : α → Prop} (h : F e) : zw_nm e F := h
section SV
variable {fi gi : Nat → Int32} {fl gl : Nat → Int64} {A bi : Nat → Nat → Int32} {al bl : Nat → Nat → Int64} {p nc ns na nd nr no : Nat}
theorem SS_levelThen_s {K : Int64 → (Nat → Int32) → (Nat → Nat → Int32) → (Nat → Nat → Int64) → Prop} {i k s n : Nat} (hN : RlN p nc ns na nd nr no fi A al gi bi bl) (t1 : i < p) (t2 : k < nd) (t4 : A 10 k = nI i) (s1 : s < ns) (sp : Sp A na (nI s) n)
    (hy : ∀ fi' ai' al', Kw fi A al fi' ai' al' → K (lvA fi A al nc ns na i k s n) fi' ai' al') : SS_levelThen_w fi fl A al (nI i) (nI s) K := by
  have p6 : p ≤ 6 := hN.1.2.1
  unfold SS_levelThen_w
  refine SS_castAll_s hN (fun fi1 ai1 al1 k1 e1 => SS_walkTo_s hN k1 s1 (fun fi2 ai2 al2 m k2 e18 sp' e42 e41 => SS_heightNow_s (by omega) ?_))
  have := hy fi2 ai2 al2 (k1.tr k2)
  rw [e18, (e1 i k t1 t2 t4).2, e41 i k t1 t2 t4, sp'.uniq sp]
  exact this
theorem Mo_levelAt_v {gi' : Nat → Int32} {bi' : Nat → Nat → Int32} {bl' : Nat → Nat → Int64} {K : Int64 → Prop} {i k s n : Nat} (hN : RlN p nc ns na nd nr no fi A al gi bi bl) (hM : Mq A (A 10) p na gi bi bl gi' bi' bl') (t1 : i < p) (t2 : k < nd) (t4 : A 10 k = nI i) (s1 : s < ns) (sp : Sp A na (nI s) n) (h : K (lvA fi A al nc ns na i k s n)) : Mo_levelAt_w gi' gl bi' bl' (nI i) (nI s) K := by
  obtain ⟨hn, hC, hg, hk, hd, ha, hw, hf, he, ho, hr, hq⟩ := id hN
  exact Mo_levelAt_s hN hM hw.2.2.1 t1 t2 t4 s1 sp h
theorem SS_survey_s {K : Int64 → (Nat → Int32) → (Nat → Nat → Int32) → (Nat → Nat → Int64) → Prop} {v1 v2 v3 : Int32} (hN : RlN p nc ns na nd nr no fi A al gi bi bl)
    (hy : ∀ i k s n e, i < p → k < nd → v1 = nI i → A 10 k = nI i → s < ns → v2 = nI s → (A 11 k).toInt ≤ v2.toInt → Sp A na (nI s) n → isR (-1000000) 1000000 v3 → e = v3.toInt64 * 1000000000 - lvA fi A al nc ns na i k s n → ∀ fi' ai' al', Kw fi A al fi' ai' al' → K e fi' ai' (va_up al' 17 (ofS (A 10) (A 11) (al 17) (nI s) (fi 0) e nd)))
    (hno : ¬ (thA A p ns nd v1 v2 ∧ isR (-1000000) 1000000 v3) → K (-1000000000000000000) fi A al) : SS_survey_w fi fl A al v1 v2 v3 K := by
  obtain ⟨hn, hC, hg, hk, hd, ha, hw, hf, he, ho, hr, hq⟩ := id hN
  obtain ⟨n1, n2, n3, n4, n5, n6, n7, n8⟩ := id hn
  obtain ⟨c7, g0, c1, g1, c2, g2, c3, g3, c4, c6, g6, c11, g7, c5, c0, c0r⟩ := id hC
  unfold SS_survey_w
  refine SS_isThere_s hN Kw.rf (fun th => if1 ?_) (fun th => if0 (hno (fun q => th q.1)))
  refine SS_within_r (a := -1000000) (b := 1000000) mi32 pl32 (br_b (fun e2 => ?_) (fun e2 => hno (fun q => e2 q.2)))
  obtain ⟨i, k, t1, t2, t3, t4, t5, t6⟩ := th
  obtain ⟨s, s1, s2, s3⟩ := isP_of t5
  subst t3 s3
  obtain ⟨n, sp⟩ := Sp.ex (A := A) (na := na) (l := nI s)
  refine SS_levelThen_s hN t1 t2 t4 s1 sp (fun fi2 ai2 al2 k3 => ?_)
  have fin := hy i k s n _ t1 t2 rfl t4 s1 rfl t6 sp e2 rfl fi2 ai2 al2 k3
  generalize v3.toInt64 * 1000000000 - lvA fi A al nc ns na i k s n = e at fin ⊢
  refine nm_i ?_
  refine SS_spread_s (nd := nd) (fl := fl) ((k3.1 4 (by omega)).trans c4) n6 (fun k hk2 => ?_) ?_
  · rw [k3.2.1 10 (by omega)]; have := hN.rowP k hk2; unfold isP at this ⊢; omega
  · rw [k3.2.1 10 (by omega), k3.2.1 11 (by omega), k3.2.2 17 (by omega) (by omega) (by omega), k3.1 0 (by omega)]
    exact fin
theorem Mo_survey_s {K : Int64 → (Nat → Int32) → (Nat → Nat → Int32) → (Nat → Nat → Int64) → Prop} {v1 v2 v3 : Int32} (hN : RlN p nc ns na nd nr no fi A al gi bi bl)
    (hy : ∀ i k s n e, i < p → k < nd → v1 = nI i → A 10 k = nI i → s < ns → v2 = nI s → (A 11 k).toInt ≤ v2.toInt → Sp A na (nI s) n → isR (-1000000) 1000000 v3 → e = v3.toInt64 * 1000000000 - lvA fi A al nc ns na i k s n → ∀ gi' bi' bl', (∀ k, k < 8 → gi' k = gi k) → (∀ q, q < 20 → bi' q = bi q) → (∀ i, i < 6 → bl' 14 i = ofS (A 10) (A 11) (al 17) (nI s) (fi 0) e nd i) → K e gi' bi' bl')
    (hno : ¬ (thA A p ns nd v1 v2 ∧ isR (-1000000) 1000000 v3) → ∀ gi' bi' bl', Km gi bi bl gi' bi' bl' → K (-1000000000000000000) gi' bi' bl') : Mo_survey_w gi gl bi bl v1 v2 v3 K := by
  obtain ⟨hn, hC, hg, hk, hd, ha, hw, hf, he, ho, hr, hq⟩ := id hN
  obtain ⟨n1, n2, n3, n4, n5, n6, n7, n8⟩ := id hn
  obtain ⟨c7, g0, c1, g1, c2, g2, c3, g3, c4, c6, g6, c11, g7, c5, c0, c0r⟩ := id hC
  have r6 : ∀ k, k < nd → isP 6 (A 10 k) := fun k h => by have := hN.rowP k h; unfold isP at this ⊢; omega
  unfold Mo_survey_w
  refine Mo_passPlan_s hN (fun gi' bi' bl' hM => Mo_isThere_s hN hM (fun th => if1 ?_) (fun th => if0 (hno (fun q => th q.1) _ _ _ hM.1)))
  refine Mo_in_r (a := -1000000) (b := 1000000) mi64 pl64 (br_b (fun e2 => ?_) (fun e2 => hno (fun q => e2 q.2) _ _ _ hM.1))
  obtain ⟨i, k, t1, t2, t3, t4, t5, t6⟩ := th
  obtain ⟨s, s1, s2, s3⟩ := isP_of t5
  subst t3 s3
  obtain ⟨n, sp⟩ := Sp.ex (A := A) (na := na) (l := nI s)
  refine Mo_levelAt_v hN hM t1 t2 t4 s1 sp ?_
  have fin := hy i k s n _ t1 t2 rfl t4 s1 rfl t6 sp e2 rfl
  rw [Int64.mul_comm 1000000000 v3.toInt64]
  refine nm_i (nm_i (nm_i ?_))
  generalize v3.toInt64 * 1000000000 - lvA fi A al nc ns na i k s n = e at fin ⊢
  rw [(hM.1.1 3 (by omega)).trans g3, (hM.1.1 5 (by omega)).trans c0.symm]
  refine lp3_d na (by omega) (fun m v bl2 => v = acS (A 11) (nI s) (fi 0) (cnt (A 6) m) ∧ (∀ q, q ≠ 14 → bl2 q = bl' q) ∧ ∀ i, i < 6 → bl2 14 i = ofS (A 10) (A 11) (al 17) (nI s) (fi 0) e (cnt (A 6) m) i) (fun L m v bl2 hm hI hL => ?_) 0 0 bl' (by omega) ⟨rfl, fun _ _ => rfl, fun i hi => by rw [hM.1.2.2]; exact ho i hi⟩
  obtain ⟨rfl, i1, i2⟩ := hI
  refine br_n (by omega) (by omega) (fun q => ?_) (fun q => ⟨vp_in_nI (by omega) (by omega), ?_⟩)
  · obtain rfl : m = na := by omega
    exact fin gi' bi' bl2 hM.1.1 hM.1.2.1 (fun i hi => by rw [i2 i hi, hw.1])
  · rw [nC (by omega)]
    obtain ⟨x1, x2, x3, x4, x5, kind⟩ := ha.1 m q
    rw [hM.1.2.1 10 (by omega), hM.1.2.1 11 (by omega), hM.1.2.1 13 (by omega), x1, x2, x4]
    refine jn2_o (fun v bl3 => v = acS (A 11) (nI s) (fi 0) (cnt (A 6) (m + 1)) ∧ (∀ q, q ≠ 14 → bl3 q = bl' q) ∧ ∀ i, i < 6 → bl3 14 i = ofS (A 10) (A 11) (al 17) (nI s) (fi 0) e (cnt (A 6) (m + 1)) i) (fun v bl3 hY => ?_) (fun J hJ => br_i Iff.rfl (fun kd => ⟨vp_in_nI (by omega) (by omega), ?_⟩) (fun kd => hJ _ _ ?_))
    · rw [nI_p1]; exact hL _ _ q hY
    · have ck : cnt (A 6) m < nd := by rw [hw.1]; exact cnt_lt q kd
      rw [← (hw.2.1 m q kd).2, cnt_s0 kd] at *
      refine br_i Iff.rfl (fun z => hJ _ _ ⟨?_, i1, fun i hi => ?_⟩) (fun z => ⟨vp_in_nI (by omega) (by omega), ?_⟩)
      · rw [acS_s, if_pos z]
      · rw [ofS_s, if_pos z]; exact i2 i hi
      · have ac : acS (A 11) (nI s) (fi 0) (cnt (A 6) m) + (1000000000 : Int64) * (fi 0).toInt64 = acS (A 11) (nI s) (fi 0) (cnt (A 6) m + 1) := by rw [acS_s, if_neg z, Int64.mul_comm]
        rw [ac]
        have rg := acS_r (ast := A 11) (y := nI s) c0r (cnt (A 6) m + 1) (by omega)
        obtain ⟨w1, w2⟩ := twZ_m (e := e) rg.1 (by omega)
        refine jn1_o (fun y => y = twZ e (acS (A 11) (nI s) (fi 0) (cnt (A 6) m + 1))) (fun y hY => ?_) (fun J2 hJ2 => br_i Iff.rfl (fun u => br_i Iff.rfl (fun u2 => hJ2 _ ((w1 u).1 u2).symm) (fun u2 => hJ2 _ ((w1 u).2 u2).symm)) (fun u => br_i Iff.rfl (fun u2 => hJ2 _ ((w2 u).1 u2).symm) (fun u2 => hJ2 _ ((w2 u).2 u2).symm)))
        obtain ⟨w, y1, y2, y3⟩ := isP_of (r6 _ ck)
        have e7 : A 7 m = nI w := by rw [← (hw.2.1 m q kd).1]; exact y3
        rw [e7, nC y2]
        refine ⟨vp_in_nI (by omega) (by omega), hJ _ _ ⟨rfl, fun r hr2 => by rw [va_n _ _ hr2]; exact i1 r hr2, fun i hi => ?_⟩⟩
        rw [va_s, ofS_s, if_neg z, y3, nC y2, hY]
        by_cases u : i = w
        · rw [u, pk_uLs, pk_uLs]
        · rw [pk_uLn u, pk_uLn u]; exact i2 i hi
    · rw [cnt_s1 kd]; exact ⟨rfl, i1, i2⟩
end SV
theorem s_survey : st_survey Rl := by
  intro fi fl ai al gi gl bi bl v1 v2 v3 hR
  obtain ⟨p, nc, ns, na, nd, nr, no, hN⟩ := Rl.e hR
  obtain ⟨hn, hC, hg, hk, hd, ha, hw, hf, he, ho, hr, hq⟩ := id hN
  obtain ⟨n1, n2, n3, n4, n5, n6, n7, n8⟩ := id hn
  refine SS_survey_s hN (fun i k s n e t1 t2 t3 t4 s1 s2 t6 sp r3 he' fi' ai' al' kw => ?_) (fun h => ?_)
  · refine Mo_survey_s hN (fun i' k' s' n' e' t1' t2' t3' t4' s1' s2' t6' sp' r3' he'' gi' bi' bl' z1 z2 z3 => ?_) (fun h => absurd ⟨⟨i, k, t1, t2, t3, t4, by rw [s2]; exact isP_nI s1 (by omega), t6⟩, r3⟩ h)
    obtain rfl : i = i' := nI_inj (by omega) (by omega) (t3.symm.trans t3')
    obtain rfl : s = s' := nI_inj (by omega) (by omega) (s2.symm.trans s2')
    obtain rfl : k = k' := hw.2.2.1 k k' t2 t2' (t4.trans t4'.symm)
    obtain rfl : n = n' := sp.uniq sp'
    obtain rfl : e = e' := he'.trans he''.symm
    refine ⟨rfl, Rl.i p nc ns na nd nr no ((hN.keep (al' := al) (bl' := bl) ⟨kw.1, fun q hq2 => kw.2.1 q (by omega), rfl⟩ ⟨z1, z2, rfl⟩).offs (fun i hi => ?_))⟩
    rw [va_s, z3 i hi]
  · refine Mo_survey_s hN (fun i' k' s' n' e' t1' t2' t3' t4' s1' s2' t6' sp' r3' he'' gi' bi' bl' z1 z2 z3 => absurd ⟨⟨i', k', t1', t2', t3', t4', by rw [s2']; exact isP_nI s1' (by omega), t6'⟩, r3'⟩ h) (fun _ gi' bi' bl' km => ⟨rfl, Rl.i p nc ns na nd nr no (hN.keep Kc.rf km)⟩)
