/-! PURE: broken, the first rule of the first stage -/
/-- rule j is broken in stage s, behind the acts of that stage -/
def pbA (fi : Nat → Int32) (A : Nat → Nat → Int32) (al : Nat → Nat → Int64) (p nc ns na nd j s : Nat) : Prop := ∃ n, Sp A na (nI s) n ∧ brA fi A al p nc ns na nd j s n
theorem pbA_i {fi : Nat → Int32} {A : Nat → Nat → Int32} {al : Nat → Nat → Int64} {p nc ns na nd j s n : Nat} (h : Sp A na (nI s) n) : pbA fi A al p nc ns na nd j s ↔ brA fi A al p nc ns na nd j s n :=
  ⟨fun ⟨m, h1, h2⟩ => by rw [h1.uniq h] at h2; exact h2, fun q => ⟨n, h, q⟩⟩
/-- stage s and rule j are the first -/
def fbA (P : Nat → Nat → Prop) (ns nr s j : Nat) : Prop := s < ns ∧ j < nr ∧ P j s ∧ (∀ s', s' < s → ∀ j', j' < nr → ¬ P j' s') ∧ (∀ j', j' < j → ¬ P j' s)
theorem fbA_u {P : Nat → Nat → Prop} {ns nr s j s' j' : Nat} (h : fbA P ns nr s j) (g : fbA P ns nr s' j') : s = s' ∧ j = j' := by
  obtain ⟨h1, h2, h3, h4, h5⟩ := h
  obtain ⟨g1, g2, g3, g4, g5⟩ := g
  have e : s = s' := by
    rcases Nat.lt_trichotomy s s' with q | q | q
    · exact absurd h3 (g4 s q j h2)
    · exact q
    · exact absurd g3 (h4 s' q j' g2)
  subst e
  refine ⟨rfl, ?_⟩
  rcases Nat.lt_trichotomy j j' with q | q | q
  · exact absurd h3 (g5 j q)
  · exact q
  · exact absurd g3 (h5 j' q)
section BK
variable {fi0 fi gi gi' : Nat → Int32} {fl gl : Nat → Int64} {ai A bi bi' : Nat → Nat → Int32} {al0 al bl bl' : Nat → Nat → Int64} {p nc ns na nd nr no : Nat} {v1 : Int32}
theorem SS_firstBroken_s {K : Int32 → Prop} {s n : Nat} (hN : RlN p nc ns na nd nr no fi0 A al0 gi bi bl) (hK : Kw fi0 A al0 fi ai al) (hs : s < ns) (e42 : ∀ k, k < 3 → al 42 k = carA A (A 10) k n) (eL : ∀ i k, i < p → k < nd → A 10 k = nI i → al 18 i + al 41 i = lvA fi0 A al0 nc ns na i k s n)
    (hy : ∀ j, j < nr → brA fi0 A al0 p nc ns na nd j s n → (∀ j', j' < j → ¬ brA fi0 A al0 p nc ns na nd j' s n) → K (nI j)) (hno : (∀ j, j < nr → ¬ brA fi0 A al0 p nc ns na nd j s n) → K (-1)) : SS_firstBroken_w fi fl ai al (nI s) K := by
  obtain ⟨hn, hC, hg, hk, hd, ha, hw, hf, he, ho, hr, hq⟩ := id hN
  obtain ⟨n1, n2, n3, n4, n5, n6, n7, n8⟩ := id hn
  obtain ⟨c7, g0, c1, g1, c2, g2, c3, g3, c4, c6, g6, c11, g7, c5, c0, c0r⟩ := id hC
  unfold SS_firstBroken_w
  rw [(hK.1 6 (by omega)).trans c6]
  refine lp1_c nr (by omega) (fun m => ∀ j, j < m → ¬ brA fi0 A al0 p nc ns na nd j s n) (fun L m hm hI hL => ?_) 0 (by omega) (fun j h => absurd h (Nat.not_lt_zero _))
  refine br_n (by omega) (by omega) (fun q => hno (fun j hj => hI j (by omega))) (fun q => ?_)
  refine SS_isBroken_s hN hK q hs e42 eL (fun b => if1 (hy m q b hI)) (fun b => if0 (nm_i ?_))
  rw [nI_p1]
  refine hL q (fun j hj => ?_)
  by_cases z : j = m
  · rw [z]; exact b
  · exact hI j (by omega)
theorem SS_broken_s {K : Int64 → (Nat → Int32) → (Nat → Nat → Int32) → (Nat → Nat → Int64) → Prop} (hN : RlN p nc ns na nd nr no fi A al gi bi bl)
    (h0 : ∀ s j, fbA (pbA fi A al p nc ns na nd) ns nr s j → v1 = 0 → ∀ fi' ai' al', Kw fi A al fi' ai' al' → K (nI s).toInt64 fi' ai' al')
    (h1 : ∀ s j, fbA (pbA fi A al p nc ns na nd) ns nr s j → v1 = 1 → ∀ fi' ai' al', Kw fi A al fi' ai' al' → K (nI j).toInt64 fi' ai' al')
    (hno : (∀ s j, fbA (pbA fi A al p nc ns na nd) ns nr s j → ¬ v1 = 0 ∧ ¬ v1 = 1) → ∀ fi' ai' al', Kw fi A al fi' ai' al' → K (-1000000000000000000) fi' ai' al') : SS_broken_w fi fl A al v1 K := by
  obtain ⟨hn, hC, hg, hk, hd, ha, hw, hf, he, ho, hr, hq⟩ := id hN
  obtain ⟨n1, n2, n3, n4, n5, n6, n7, n8⟩ := id hn
  obtain ⟨c7, g0, c1, g1, c2, g2, c3, g3, c4, c6, g6, c11, g7, c5, c0, c0r⟩ := id hC
  unfold SS_broken_w
  refine jn0_o (v1 = 0 ∨ v1 = 1) (fun v01 => ?_) (fun J hJ => br_i Iff.rfl (fun z => hJ (Or.inl z)) (fun z => br_i Iff.rfl (fun z1 => hJ (Or.inr z1)) (fun z1 => hno (fun _ _ _ => ⟨z, z1⟩) _ _ _ Kw.rf)))
  refine SS_castAll_s hN (fun fi1 ai1 al1 k1 e1 => nm_i ?_)
  refine lp4_c ns (by omega) (fun s fi' ai' al' => Kw fi A al fi' ai' al' ∧ al' 18 = al1 18 ∧ ∀ s', s' < s → ∀ j, j < nr → ¬ pbA fi A al p nc ns na nd j s') (fun L s fi2 ai2 al2 hs hI hL => ?_) 0 fi1 ai1 al1 (by omega) ⟨k1, rfl, fun s h => absurd h (Nat.not_lt_zero _)⟩
  obtain ⟨i1, i2, i3⟩ := hI
  rw [(i1.1 2 (by omega)).trans c2]
  refine br_n (by omega) (by omega) (fun q => hno (fun s' j h => absurd h.2.2.1 (i3 s' (by have := h.1; omega) j h.2.1)) _ _ _ i1) (fun q => ?_)
  refine SS_walkTo_s hN i1 q (fun fi3 ai3 al3 n k3 e18 sp e42 e41 => ?_)
  have k4 := i1.tr k3
  refine SS_firstBroken_s hN k4 q e42 (fun i k t1 t2 t4 => ?_) (fun j hj b first => ?_) (fun none => ?_)
  · rw [e18, i2, (e1 i k t1 t2 t4).2, e41 i k t1 t2 t4]; rfl
  · rw [if_neg (show ¬ nI j < 0 by rw [i_lt, nT (by omega), show (0 : Int32).toInt = 0 from rfl]; omega)]
    have fb : fbA (pbA fi A al p nc ns na nd) ns nr s j := ⟨q, hj, (pbA_i sp).mpr b, i3, fun j' h u => first j' h ((pbA_i sp).mp u)⟩
    rcases v01 with z | z
    · rw [if_pos z]; exact h0 s j fb z _ _ _ k4
    · rw [if_neg (by rw [z]; decide)]; exact h1 s j fb z _ _ _ k4
  · rw [if_pos (by decide)]
    refine nm_i ?_
    rw [nI_p1]
    refine hL _ _ _ q ⟨k4, e18.trans i2, fun s' hs' j hj u => ?_⟩
    by_cases z : s' = s
    · rw [z] at u; exact none j hj ((pbA_i sp).mp u)
    · exact i3 s' (by omega) j hj u
theorem Mo_broken_s {K : Int64 → (Nat → Int32) → (Nat → Nat → Int32) → (Nat → Nat → Int64) → Prop} (hN : RlN p nc ns na nd nr no fi A al gi bi bl)
    (h0 : ∀ s j, fbA (pbA fi A al p nc ns na nd) ns nr s j → v1 = 0 → ∀ gi' bi' bl', Km gi bi bl gi' bi' bl' → K (nI s).toInt64 gi' bi' bl')
    (h1 : ∀ s j, fbA (pbA fi A al p nc ns na nd) ns nr s j → v1 = 1 → ∀ gi' bi' bl', Km gi bi bl gi' bi' bl' → K (nI j).toInt64 gi' bi' bl')
    (hno : (∀ s j, fbA (pbA fi A al p nc ns na nd) ns nr s j → ¬ v1 = 0 ∧ ¬ v1 = 1) → ∀ gi' bi' bl', Km gi bi bl gi' bi' bl' → K (-1000000000000000000) gi' bi' bl') : Mo_broken_w gi gl bi bl v1 K := by
  obtain ⟨hn, hC, hg, hk, hd, ha, hw, hf, he, ho, hr, hq⟩ := id hN
  obtain ⟨n1, n2, n3, n4, n5, n6, n7, n8⟩ := id hn
  obtain ⟨c7, g0, c1, g1, c2, g2, c3, g3, c4, c6, g6, c11, g7, c5, c0, c0r⟩ := id hC
  unfold Mo_broken_w
  refine Mo_passPlan_s hN (fun gi' bi' bl' hM => nm_i ?_)
  rw [(hM.1.1 2 (by omega)).trans g2, (hM.1.1 6 (by omega)).trans g6]
  refine lp1_c ns (by omega) (fun s => ∀ s', s' < s → ∀ j, j < nr → ¬ pbA fi A al p nc ns na nd j s') (fun L s hs hI hL => ?_) 0 (by omega) (fun s h => absurd h (Nat.not_lt_zero _))
  refine br_n (by omega) (by omega) (fun q => hno (fun s' j h => absurd h.2.2.1 (hI s' (by have := h.1; omega) j h.2.1)) _ _ _ hM.1) (fun q => nm_i ?_)
  obtain ⟨n, sp⟩ := Sp.ex (A := A) (na := na) (l := nI s)
  refine lp1_c nr (by omega) (fun m => ∀ j, j < m → ¬ pbA fi A al p nc ns na nd j s) (fun L2 m hm hI2 hL2 => ?_) 0 (by omega) (fun s h => absurd h (Nat.not_lt_zero _))
  refine br_n (by omega) (by omega) (fun q2 => nm_i ?_) (fun q2 => ?_)
  · rw [nI_p1]
    refine hL q (fun s' hs' j hj u => ?_)
    by_cases z : s' = s
    · rw [z] at u; exact hI2 j (by omega) u
    · exact hI s' (by omega) j hj u
  · refine Mo_holds_s hN hM q2 q sp (fun b => if0 ?_) (fun b => if1 (nm_i ?_))
    · have fb : fbA (pbA fi A al p nc ns na nd) ns nr s m := ⟨q, q2, (pbA_i sp).mpr b, hI, hI2⟩
      refine br_i Iff.rfl (fun z => h0 s m fb z _ _ _ hM.1) (fun z => br_i Iff.rfl (fun z1 => h1 s m fb z1 _ _ _ hM.1) (fun z1 => hno (fun s' j' fb' => ⟨z, z1⟩) _ _ _ hM.1))
    · rw [nI_p1]
      refine hL2 q2 (fun j hj u => ?_)
      by_cases z : j = m
      · rw [z] at u; exact b ((pbA_i sp).mp u)
      · exact hI2 j (by omega) u
end BK
theorem s_broken : st_broken Rl := by
  intro fi fl ai al gi gl bi bl v1 hR
  obtain ⟨p, nc, ns, na, nd, nr, no, hN⟩ := Rl.e hR
  refine SS_broken_s hN (fun s j fb e fi' ai' al' kw => ?_) (fun s j fb e fi' ai' al' kw => ?_) (fun h fi' ai' al' kw => ?_)
  · refine Mo_broken_s hN (fun s' j' fb' e' gi' bi' bl' km => ?_) (fun s' j' fb' e' => absurd (e.symm.trans e') (by decide)) (fun h => absurd e (h s j fb).1)
    rw [(fbA_u fb fb').1]
    exact ⟨rfl, Rl.i p nc ns na nd nr no (hN.keep kw.kc km)⟩
  · refine Mo_broken_s hN (fun s' j' fb' e' => absurd (e'.symm.trans e) (by decide)) (fun s' j' fb' e' gi' bi' bl' km => ?_) (fun h => absurd e (h s j fb).2)
    rw [(fbA_u fb fb').2]
    exact ⟨rfl, Rl.i p nc ns na nd nr no (hN.keep kw.kc km)⟩
  · refine Mo_broken_s hN (fun s' j' fb' e' => absurd e' (h s' j' fb').1) (fun s' j' fb' e' => absurd e' (h s' j' fb').2) (fun _ gi' bi' bl' km => ?_)
    exact ⟨rfl, Rl.i p nc ns na nd nr no (hN.keep kw.kc km)⟩
