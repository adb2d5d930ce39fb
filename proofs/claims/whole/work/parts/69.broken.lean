/-! PURE: broken -/
/-- rule j lets v be -/
def okR (A : Nat → Nat → Int32) (j : Nat) (v u : Int64) : Prop := (A 15 j).toInt64 * u ≤ v ∧ v ≤ (A 16 j).toInt64 * u
/-- rule j is broken in stage s -/
def brA (fi : Nat → Int32) (A : Nat → Nat → Int32) (al : Nat → Nat → Int64) (p nc ns na nd : Nat) (j s n : Nat) : Prop :=
  (A 13 j = 0 ∧ ∃ i k, i < p ∧ k < nd ∧ A 14 j = nI i ∧ A 10 k = nI i ∧ (A 11 k).toInt ≤ (nI s).toInt ∧ ¬ okR A j (lvA fi A al nc ns na i k s n) 1000000000) ∨
  (A 13 j = 1 ∧ ∃ i k k2, i + 1 < p ∧ k < nd ∧ k2 < nd ∧ A 14 j = nI i ∧ A 10 k = nI i ∧ A 10 k2 = nI (i + 1) ∧ (A 11 k).toInt ≤ (nI s).toInt ∧ (A 11 k2).toInt ≤ (nI s).toInt ∧ ¬ okR A j (lvA fi A al nc ns na i k s n - lvA fi A al nc ns na (i + 1) k2 s n) 1000000000) ∨
  (A 13 j = 2 ∧ ∃ w, w < 3 ∧ A 14 j = nI w ∧ ¬ okR A j (carA A (A 10) w n) 1000)
theorem Ru_allows_s {fi : Nat → Int32} {fl : Nat → Int64} {ai A : Nat → Nat → Int32} {al : Nat → Nat → Int64} {K : Int32 → Prop} {j : Nat} {v u : Int64} (hj : j < 8) (e15 : ai 15 = A 15) (e16 : ai 16 = A 16) (hy : okR A j v u → K 1) (hno : ¬ okR A j v u → K 0) : Ru_allows_w fi fl ai al (nI j) v u K := by
  unfold Ru_allows_w
  rw [nC (by omega), e15, e16]
  refine ⟨vp_in_nI (by omega) (by omega), br_i l_lt (fun z => hno (fun q => ?_)) (fun z => ⟨vp_in_nI (by omega) (by omega), br_i l_lt (fun z2 => hno (fun q => ?_)) (fun z2 => hy ⟨?_, ?_⟩)⟩)⟩
  · have := l_le.mp q.1; omega
  · have := l_le.mp q.2; omega
  · rw [l_le]; omega
  · rw [l_le]; omega
section BR
variable {fi0 fi gi gi' : Nat → Int32} {fl gl : Nat → Int64} {ai A bi bi' : Nat → Nat → Int32} {al0 al bl bl' : Nat → Nat → Int64} {p nc ns na nd nr no : Nat}
theorem SS_isBroken_s {K : Int32 → Prop} {j s n : Nat} (hN : RlN p nc ns na nd nr no fi0 A al0 gi bi bl) (hK : Kw fi0 A al0 fi ai al) (hj : j < nr) (hs : s < ns) (e42 : ∀ k, k < 3 → al 42 k = carA A (A 10) k n) (eL : ∀ i k, i < p → k < nd → A 10 k = nI i → al 18 i + al 41 i = lvA fi0 A al0 nc ns na i k s n)
    (hy : brA fi0 A al0 p nc ns na nd j s n → K 1) (hno : ¬ brA fi0 A al0 p nc ns na nd j s n → K 0) : SS_isBroken_w fi fl ai al (nI j) (nI s) K := by
  obtain ⟨hn, hC, hg, hk, hd, ha, hw, hf, he, ho, hr, hq⟩ := id hN
  obtain ⟨n1, n2, n3, n4, n5, n6, n7, n8⟩ := id hn
  obtain ⟨-, -, -, -, ru⟩ := hr j hj
  have e15 : ai 15 = A 15 := hK.2.1 15 (by omega)
  have e16 : ai 16 = A 16 := hK.2.1 16 (by omega)
  unfold SS_isBroken_w zw_nm
  rw [nC (by omega), hK.2.1 13 (by omega), hK.2.1 14 (by omega)]
  refine ⟨vp_in_nI (by omega) (by omega), vp_in_nI (by omega) (by omega), ?_⟩
  rcases ru with ⟨kd, kp⟩ | ⟨kd, kp⟩ | ⟨kd, kp⟩
  · have e1 : ¬ A 13 j = 1 := by rw [kd]; decide
    have e2 : ¬ A 13 j = 2 := by rw [kd]; decide
    obtain ⟨i, i1, i2, i3⟩ := isP_of kp
    rw [if_pos kd, i3]
    refine SS_isThere_s hN hK (fun th => if1 ?_) (fun th => if0 (hno (fun q => ?_)))
    · obtain ⟨i', k, t1, t2, t3, t4, t5, t6⟩ := th
      obtain rfl : i = i' := nI_inj (by omega) (by omega) t3
      refine SS_heightNow_s (by omega) (Ru_allows_s (A := A) (by omega) e15 e16 (fun ok => if1 (hno (fun q => ?_))) (fun ok => if0 (hy (Or.inl ⟨kd, i, k, t1, t2, i3, t4, t6, by rw [← eL i k t1 t2 t4]; exact ok⟩))))
      rcases q with ⟨_, i', k', q1, q2, q3, q4, q5, q6⟩ | ⟨q, _⟩ | ⟨q, _⟩
      · rw [i3] at q3
        obtain rfl : i = i' := nI_inj (by omega) (by omega) q3
        rw [eL i k' q1 q2 q4] at ok
        exact q6 ok
      · exact e1 q
      · exact e2 q
    · rcases q with ⟨_, i', k', q1, q2, q3, q4, q5, q6⟩ | ⟨q, _⟩ | ⟨q, _⟩
      · rw [i3] at q3
        obtain rfl : i = i' := nI_inj (by omega) (by omega) q3
        exact th ⟨i, k', q1, q2, rfl, q4, isP_nI hs (by omega), q5⟩
      · exact e1 q
      · exact e2 q
  · have e0 : ¬ A 13 j = 0 := by rw [kd]; decide
    have e2 : ¬ A 13 j = 2 := by rw [kd]; decide
    obtain ⟨i, i1, i2, i3⟩ := isP_of kp
    rw [if_neg e0, if_pos kd, i3, nI_p1]
    refine SS_isThere_s hN hK (fun th => if1 ?_) (fun th => if0 (hno (fun q => ?_)))
    · obtain ⟨i', k, t1, t2, t3, t4, t5, t6⟩ := th
      obtain rfl : i = i' := nI_inj (by omega) (by omega) t3
      refine SS_isThere_s hN hK (fun th => if1 ?_) (fun th => if0 (hno (fun q => ?_)))
      · obtain ⟨i', k2, u1, u2, u3, u4, u5, u6⟩ := th
        obtain rfl : i + 1 = i' := nI_inj (by omega) (by omega) u3
        refine SS_heightNow_s (by omega) (SS_heightNow_s (by omega) (Ru_allows_s (A := A) (by omega) e15 e16 (fun ok => if1 (hno (fun q => ?_))) (fun ok => if0 (hy (Or.inr (Or.inl ⟨kd, i, k, k2, u1, t2, u2, i3, t4, u4, t6, u6, by rw [← eL i k t1 t2 t4, ← eL (i + 1) k2 u1 u2 u4]; exact ok⟩))))))
        rcases q with ⟨q, _⟩ | ⟨_, i', k', k2', q1, q2, q3, q4, q5, q6, q7, q8, q9⟩ | ⟨q, _⟩
        · exact e0 q
        · rw [i3] at q4
          obtain rfl : i = i' := nI_inj (by omega) (by omega) q4
          rw [eL i k' t1 q2 q5, eL (i + 1) k2' u1 q3 q6] at ok
          exact q9 ok
        · exact e2 q
      · rcases q with ⟨q, _⟩ | ⟨_, i', k', k2', q1, q2, q3, q4, q5, q6, q7, q8, q9⟩ | ⟨q, _⟩
        · exact e0 q
        · rw [i3] at q4
          obtain rfl : i = i' := nI_inj (by omega) (by omega) q4
          exact th ⟨i + 1, k2', q1, q3, rfl, q6, isP_nI hs (by omega), q8⟩
        · exact e2 q
    · rcases q with ⟨q, _⟩ | ⟨_, i', k', k2', q1, q2, q3, q4, q5, q6, q7, q8, q9⟩ | ⟨q, _⟩
      · exact e0 q
      · rw [i3] at q4
        obtain rfl : i = i' := nI_inj (by omega) (by omega) q4
        exact th ⟨i, k', by omega, q2, rfl, q5, isP_nI hs (by omega), q7⟩
      · exact e2 q
  · have e0 : ¬ A 13 j = 0 := by rw [kd]; decide
    have e1 : ¬ A 13 j = 1 := by rw [kd]; decide
    obtain ⟨w, w1, w2, w3⟩ := isP_of kp
    rw [if_neg e0, if_neg e1, w3, nC w2, e42 w w1]
    refine ⟨vp_in_nI (by omega) (by omega), Ru_allows_s (A := A) (by omega) e15 e16 (fun ok => if1 (hno (fun q => ?_))) (fun ok => if0 (hy (Or.inr (Or.inr ⟨kd, w, w1, w3, ok⟩))))⟩
    rcases q with ⟨q, _⟩ | ⟨q, _⟩ | ⟨_, w', q1, q2, q3⟩
    · exact e0 q
    · exact e1 q
    · rw [w3] at q2
      obtain rfl : w = w' := nI_inj (by omega) (by omega) q2
      exact q3 ok
theorem Mo_holds_s {K : Int32 → Prop} {j s n : Nat} (hN : RlN p nc ns na nd nr no fi0 A al0 gi bi bl) (hM : Mq A (A 10) p na gi bi bl gi' bi' bl') (hj : j < nr) (hs : s < ns) (sp : Sp A na (nI s) n)
    (hy : brA fi0 A al0 p nc ns na nd j s n → K 0) (hno : ¬ brA fi0 A al0 p nc ns na nd j s n → K 1) : Mo_holds_w gi' gl bi' bl' (nI j) (nI s) K := by
  obtain ⟨hn, hC, hg, hk, hd, ha, hw, hf, he, ho, hr, hq⟩ := id hN
  obtain ⟨n1, n2, n3, n4, n5, n6, n7, n8⟩ := id hn
  obtain ⟨r1, r2, r3, r4, ru⟩ := hr j hj
  unfold Mo_holds_w zw_nm
  rw [nC (by omega), hM.1.2.1 15 (by omega), hM.1.2.1 16 (by omega), hM.1.2.1 17 (by omega), hM.1.2.1 18 (by omega), r1, r2, r3, r4]
  have inn : ∀ {v u : Int64} {K : Int32 → Prop}, (okR A j v u → K 1) → (¬ okR A j v u → K 0) → Mo_in_w v (u * (A 15 j).toInt64) (u * (A 16 j).toInt64) (fun r => zw_bool r ∧ K r) := fun {v u K} h1 h2 => by
    refine Mo_in_g ?_
    rw [Int64.mul_comm u, Int64.mul_comm u]
    by_cases q : okR A j v u
    · rw [bI_t ⟨l_le.mp q.1, l_le.mp q.2⟩]; exact ⟨Or.inr rfl, h1 q⟩
    · rw [bI_f (fun z => q ⟨l_le.mpr z.1, l_le.mpr z.2⟩)]; exact ⟨Or.inl rfl, h2 q⟩
  have i8 : vp_in (nI j) 8 := vp_in_nI (by omega) (by omega)
  refine ⟨i8, i8, ?_⟩
  rcases ru with ⟨kd, kp⟩ | ⟨kd, kp⟩ | ⟨kd, kp⟩
  · have e1 : ¬ A 13 j = 1 := by rw [kd]; decide
    have e2 : ¬ A 13 j = 2 := by rw [kd]; decide
    obtain ⟨i, i1, i2, i3⟩ := isP_of kp
    rw [if_neg e2, i3]
    refine Mo_isThere_s hN hM (fun th => if1 ⟨i8, ?_⟩) (fun th => if0 (hno (fun q => ?_)))
    · obtain ⟨i', k, t1, t2, t3, t4, t5, t6⟩ := th
      obtain rfl : i = i' := nI_inj (by omega) (by omega) t3
      refine jn0_o True (fun _ => Mo_levelAt_s hN hM hw.2.2.1 t1 t2 t4 hs sp ⟨i8, ?_⟩) (fun J hJ => by rw [if_neg e1]; exact hJ trivial)
      refine jn1_o (fun y => y = 0) (fun y hY => ⟨i8, i8, ?_⟩) (fun J hJ => by rw [if_neg e1]; exact hJ _ rfl)
      rw [hY, Int64.sub_zero]
      refine inn (fun ok => hno (fun q => ?_)) (fun ok => hy (Or.inl ⟨kd, i, k, t1, t2, i3, t4, t6, ok⟩))
      rcases q with ⟨_, i', k', q1, q2, q3, q4, q5, q6⟩ | ⟨q, _⟩ | ⟨q, _⟩
      · rw [i3] at q3
        obtain rfl : i = i' := nI_inj (by omega) (by omega) q3
        obtain rfl : k = k' := hw.2.2.1 k k' t2 q2 (t4.trans q4.symm)
        exact q6 ok
      · exact e1 q
      · exact e2 q
    · rcases q with ⟨_, i', k', q1, q2, q3, q4, q5, q6⟩ | ⟨q, _⟩ | ⟨q, _⟩
      · rw [i3] at q3
        obtain rfl : i = i' := nI_inj (by omega) (by omega) q3
        exact th ⟨i, k', q1, q2, rfl, q4, isP_nI hs (by omega), q5⟩
      · exact e1 q
      · exact e2 q
  · have e0 : ¬ A 13 j = 0 := by rw [kd]; decide
    have e2 : ¬ A 13 j = 2 := by rw [kd]; decide
    obtain ⟨i, i1, i2, i3⟩ := isP_of kp
    rw [if_neg e2, i3, nI_p1]
    refine Mo_isThere_s hN hM (fun th => if1 ⟨i8, ?_⟩) (fun th => if0 (hno (fun q => ?_)))
    · obtain ⟨i', k, t1, t2, t3, t4, t5, t6⟩ := th
      obtain rfl : i = i' := nI_inj (by omega) (by omega) t3
      refine jn0_o (thA A p ns nd (nI (i + 1)) (nI s)) (fun th => Mo_levelAt_s hN hM hw.2.2.1 t1 t2 t4 hs sp ⟨i8, ?_⟩) (fun J hJ => by
        rw [if_pos kd]
        refine Mo_isThere_s hN hM (fun th => if1 (hJ th)) (fun th => if0 (hno (fun q => ?_)))
        rcases q with ⟨q, _⟩ | ⟨_, i', k', k2', q1, q2, q3, q4, q5, q6, q7, q8, q9⟩ | ⟨q, _⟩
        · exact e0 q
        · rw [i3] at q4
          obtain rfl : i = i' := nI_inj (by omega) (by omega) q4
          exact th ⟨i + 1, k2', q1, q3, rfl, q6, isP_nI hs (by omega), q8⟩
        · exact e2 q)
      obtain ⟨i', k2, u1, u2, u3, u4, u5, u6⟩ := th
      obtain rfl : i + 1 = i' := nI_inj (by omega) (by omega) u3
      refine jn1_o (fun y => y = lvA fi0 A al0 nc ns na (i + 1) k2 s n) (fun y hY => ⟨i8, i8, ?_⟩) (fun J hJ => by rw [if_pos kd]; exact Mo_levelAt_s hN hM hw.2.2.1 u1 u2 u4 hs sp (hJ _ rfl))
      rw [hY]
      refine inn (fun ok => hno (fun q => ?_)) (fun ok => hy (Or.inr (Or.inl ⟨kd, i, k, k2, u1, t2, u2, i3, t4, u4, t6, u6, ok⟩)))
      rcases q with ⟨q, _⟩ | ⟨_, i', k', k2', q1, q2, q3, q4, q5, q6, q7, q8, q9⟩ | ⟨q, _⟩
      · exact e0 q
      · rw [i3] at q4
        obtain rfl : i = i' := nI_inj (by omega) (by omega) q4
        obtain rfl : k = k' := hw.2.2.1 k k' t2 q2 (t4.trans q5.symm)
        obtain rfl : k2 = k2' := hw.2.2.1 k2 k2' u2 q3 (u4.trans q6.symm)
        exact q9 ok
      · exact e2 q
    · rcases q with ⟨q, _⟩ | ⟨_, i', k', k2', q1, q2, q3, q4, q5, q6, q7, q8, q9⟩ | ⟨q, _⟩
      · exact e0 q
      · rw [i3] at q4
        obtain rfl : i = i' := nI_inj (by omega) (by omega) q4
        exact th ⟨i, k', by omega, q2, rfl, q5, isP_nI hs (by omega), q7⟩
      · exact e2 q
  · have e0 : ¬ A 13 j = 0 := by rw [kd]; decide
    have e1 : ¬ A 13 j = 1 := by rw [kd]; decide
    obtain ⟨w, w1, w2, w3⟩ := isP_of kp
    rw [if_pos kd, w3]
    refine Mo_carriedAt_s hN hM w1 sp ⟨i8, i8, inn (fun ok => hno (fun q => ?_)) (fun ok => hy (Or.inr (Or.inr ⟨kd, w, w1, w3, ok⟩)))⟩
    rcases q with ⟨q, _⟩ | ⟨q, _⟩ | ⟨_, w', q1, q2, q3⟩
    · exact e0 q
    · exact e1 q
    · rw [w3] at q2
      obtain rfl : w = w' := nI_inj (by omega) (by omega) q2
      exact q3 ok
end BR
