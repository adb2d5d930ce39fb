/-! PURE: best -/
theorem RlN.found {p nc ns na nd nr no n : Nat} {fi gi fi' gi' : Nat → Int32} {ai bi ai' bi' : Nat → Nat → Int32} {al bl al' bl' : Nat → Nat → Int64} (h : RlN p nc ns na nd nr no fi ai al gi bi bl) (n6 : n ≤ 6) (f1 : ∀ k, k < 8 → fi' k = fi k) (f11 : fi' 11 = nI n) (f2 : ∀ q, q < 43 → ai' q = ai q) (f3 : al' 17 = al 17) (g1 : ∀ k, k < 7 → gi' k = gi k) (g7 : gi' 7 = nI n) (g2 : ∀ q, q < 19 → bi' q = bi q) (g3 : bl' 14 = bl 14) (hq' : Rq n ai' bi') : RlN p nc ns na nd nr n fi' ai' al' gi' bi' bl' := by
  obtain ⟨hn, hC, hg, hk, hd, ha, hw, hf, he, ho, hr, hq⟩ := h
  obtain ⟨n1, n2, n3, n4, n5, n6', n7, n8⟩ := hn
  refine ⟨⟨n1, n2, n3, n4, n5, n6', n7, n6⟩, ?_, hg.c (fun q h1 h2 => f2 q (by omega)) (fun q h1 h2 => g2 q (by omega)), hk.c (f2 2 (by omega)) (f2 3 (by omega)) (g2 6 (by omega)) (g2 7 (by omega)), hd.c (f2 5 (by omega)) (g2 9 (by omega)), ha.c (f2 6 (by omega)) (f2 7 (by omega)) (f2 8 (by omega)) (f2 9 (by omega)) (g2 10 (by omega)) (g2 11 (by omega)) (g2 12 (by omega)) (g2 13 (by omega)), hw.c (f2 6 (by omega)) (f2 7 (by omega)) (f2 9 (by omega)) (f2 10 (by omega)) (f2 11 (by omega)), hf.c (f2 39 (by omega)) (f2 10 (by omega)) (g2 8 (by omega)), he.c (f1 5 (by omega)) (f2 5 (by omega)), ho.c f3 g3, hr.c (f2 13 (by omega)) (f2 14 (by omega)) (f2 15 (by omega)) (f2 16 (by omega)) (g2 15 (by omega)) (g2 16 (by omega)) (g2 17 (by omega)) (g2 18 (by omega)), hq'⟩
  obtain ⟨c7, g0, c1, g1', c2, g2', c3, g3', c4, c6, g6, c11, g7', c5, c0, c0r⟩ := hC
  unfold Rc
  rw [f1 7 (by omega), f1 1 (by omega), f1 2 (by omega), f1 3 (by omega), f1 4 (by omega), f1 6 (by omega), f11, f1 5 (by omega), f1 0 (by omega), g1 0 (by omega), g1 1 (by omega), g1 2 (by omega), g1 3 (by omega), g1 6 (by omega), g7, g1 4 (by omega), g1 5 (by omega)]
  exact ⟨c7, g0, c1, g1', c2, g2', c3, g3', c4, c6, g6, rfl, rfl, c5, c0, c0r⟩
section BE
variable {fi gi : Nat → Int32} {fl gl : Nat → Int64} {A bi : Nat → Nat → Int32} {al bl : Nat → Nat → Int64} {p nc ns na nd nr no : Nat}
/-- the plan's own row is one of those that are allowed -/
theorem RlN.own (hN : RlN p nc ns na nd nr no fi A al gi bi bl) : 0 ≤ (beA fi A bi nc ns na nd (-1, []) (dfs (sR (A 10) nd) nd [])).1.toInt := by
  obtain ⟨hn, hC, hg, hk, hd, ha, hw, hf, he, ho, hr, hq⟩ := id hN
  obtain ⟨n1, n2, n3, n4, n5, n6, n7, n8⟩ := id hn
  have r6 : ∀ k, k < nd → isP 6 (A 10 k) := fun k h => by have := hN.rowP k h; unfold isP at this ⊢; omega
  have lm : ((List.range nd).map (fun k => (A 10 k).toNatClampNeg)).length = nd := by rw [List.length_map, List.length_range]
  have lg : ∀ k, k < nd → nI (gt ((List.range nd).map (fun k => (A 10 k).toNatClampNeg)) k) = A 10 k := fun k hk2 => by
    obtain ⟨w, w1, w2, w3⟩ := isP_of (r6 k hk2)
    rw [gt_lt (by rw [lm]; exact hk2), List.getElem_map, List.getElem_range, w3, nC w2]
  have l6 : ∀ k, k < nd → gt ((List.range nd).map (fun k => (A 10 k).toNatClampNeg)) k < 6 := fun k hk2 => by
    obtain ⟨w, w1, w2, w3⟩ := isP_of (r6 k hk2)
    rw [gt_lt (by rw [lm]; exact hk2), List.getElem_map, List.getElem_range, w3, nC w2]; exact w1
  generalize (List.range nd).map (fun k => (A 10 k).toNatClampNeg) = l at lm lg l6
  unfold beA
  refine stB_nn (fun l => (gxA_g nd).1) _ _ (Or.inr ⟨l, dfs_mem (fun k hk2 => ?_) (fun j k hj hk2 e => ?_) nd [] (by rw [lm]; simp) (fun k h => absurd h (Nat.not_lt_zero _)), fun k hk2 x ed => ?_, fun b hb e => ?_⟩)
  · rw [lm] at hk2
    refine ⟨l6 k hk2, ?_⟩
    rw [sR_6 (l6 k hk2), hasR_i]
    exact ⟨k, hk2, (lg k hk2).symm⟩
  · rw [lm] at hj hk2
    exact hw.2.2.1 j k hj hk2 (by rw [← lg j hj, ← lg k hk2, e])
  · obtain ⟨j, j1, j2⟩ := hf.2.2.2.2.2 x _ ed k hk2 (lg k hk2).symm
    refine ⟨j, j1, ?_⟩
    have := l6 j (by omega)
    have := ed.1
    exact nI_inj (by omega) (by omega) (by rw [lg j (by omega)]; exact j2)
  · obtain ⟨k, k1, k2⟩ := hw.2.2.2 b hb e
    have := cnt_mono (kd := A 6) (show b ≤ na by omega)
    exact ⟨k, k1, by rw [lg k (by rw [hw.1]; omega)]; exact k2⟩
theorem SS_best_s {K : Int64 → (Nat → Int32) → (Nat → Int64) → (Nat → Nat → Int32) → (Nat → Nat → Int64) → Prop} (hN : RlN p nc ns na nd nr no fi A al gi bi bl)
    (h0 : nd = 0 → K (-1000000000000000000) fi fl A al)
    (hy : 0 < nd → ∀ fi' fl' ai' al', (∀ k, k < 8 → fi' k = fi k) → fi' 11 = nI nd → (∀ q, q < 43 → ai' q = A q) → (∀ k, k < nd → ai' 60 k = nI (gt (beA fi A bi nc ns na nd (-1, []) (dfs (sR (A 10) nd) nd [])).2 k)) → al' 17 = al 17 → K (beA fi A bi nc ns na nd (-1, []) (dfs (sR (A 10) nd) nd [])).1 fi' fl' ai' al') : SS_best_w fi fl A al K := by
  obtain ⟨hn, hC, hg, hk, hd, ha, hw, hf, he, ho, hr, hq⟩ := id hN
  obtain ⟨n1, n2, n3, n4, n5, n6, n7, n8⟩ := id hn
  obtain ⟨c7, g0, c1, g1, c2, g2, c3, g3, c4, c6, g6, c11, g7, c5, c0, c0r⟩ := id hC
  have r6 : ∀ k, k < nd → isP 6 (A 10 k) := fun k h => by have := hN.rowP k h; unfold isP at this ⊢; omega
  unfold SS_best_w
  rw [c4]
  refine br_i (eq_nI (c := 0) (m := 0) rfl (by omega) (by omega)) h0 (fun nd0 => ?_)
  have nd0 : 0 < nd := by omega
  have ns0 := hN.nsP nd0
  unfold Se_leastGreatest_w
  refine nm_i ?_
  refine Pl_endDay_x hN (fun D hD => ?_)
  rw [hD ns0]
  refine Wa_aim_s (A := A) c1 n3 c2 n4 hk rfl rfl rfl (fun ai1 f1 f2 f3 => ?_)
  have v8 : ∀ k, k ≠ 8 → va_up fi 8 (fi 2 - 1) k = fi k := fun k h => va_n _ _ h
  refine Pl_partBits_s ((v8 4 (by omega)).trans c4) n6 (fun k hk2 => by rw [f1 10 (by omega)]; exact r6 k hk2) (fun ab hab => ?_)
  rw [f1 10 (by omega)] at hab
  refine Se_tryFrom_s (fiB := va_up fi 8 (fi 2 - 1)) (aiB := ai1) (alB := al) hN ns0 (fun k hk2 => v8 k (by omega)) (by rw [va_s, c2, nI_s1 ns0]) (fun q hq2 => f1 q (by omega)) f2 f3 hab nd 7 [] _ _ _ _ (-1, []) 0 _ (by omega) (by simp) (fun k h => absurd h (Nat.not_lt_zero _)) (fun j k h => absurd h (Nat.not_lt_zero _)) (fun k h => absurd h (Nat.not_lt_zero _)) (fun x hx => ?_) ⟨fun _ _ _ _ => rfl, fun _ _ _ _ => rfl, fun _ _ _ => rfl, va_s _ _ _, Or.inl rfl⟩ (fun k h => absurd h (Nat.not_lt_zero _)) (fun fi' fl' ai' al' d _ => ?_)
  · rw [b_0]
    exact ⟨fun h => (by cases h), fun ⟨k, h, _⟩ => absurd h (Nat.not_lt_zero _)⟩
  · obtain ⟨d1, d2, d3, d4, d5⟩ := d
    have own := hN.own
    rw [d4]
    rcases d5 with z | ⟨z1, z2, z3⟩
    · rw [z] at own; exact absurd own (by decide)
    · exact hy nd0 fi' fl' ai' al' (fun k hk2 => (d1 k (by omega) (by omega) (by omega)).trans (v8 k (by omega))) z2 (fun q hq2 => (d2 q (by omega) (by omega) (by omega)).trans (f1 q (by omega))) z3 (d3 17 (by omega) (by omega))
end BE
theorem s_best : st_best Rl := by
  intro fi fl ai al gi gl bi bl hR
  obtain ⟨p, nc, ns, na, nd, nr, no, hN⟩ := Rl.e hR
  have n6 : nd ≤ 6 := hN.1.2.2.2.2.2.1
  refine SS_best_s hN (fun z => ?_) (fun z fi' fl' ai' al' f1 f11 f2 f60 f3 => ?_)
  · exact Mo_best_s hN (fun _ => hN.own) (fun _ gi' bi' km => ⟨rfl, Rl.i p nc ns na nd nr no (hN.keep Kc.rf km)⟩) (fun y => by omega)
  · refine Mo_best_s hN (fun _ => hN.own) (fun y => by omega) (fun _ gi' bi' bl' g1 g7 g2 g19 g3 => ⟨rfl, Rl.i p nc ns na nd nr nd (hN.found n6 f1 f11 f2 f3 g1 g7 g2 g3 (fun k hk2 => ?_))⟩)
    rw [g19 k hk2, f60 k hk2]
