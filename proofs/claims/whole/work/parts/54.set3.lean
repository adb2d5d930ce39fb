/-! PURE: rule, stage, end -/
section SD
variable {fi : Nat → Int32} {fl : Nat → Int64} {ai : Nat → Nat → Int32} {al : Nat → Nat → Int64} {p nc ns nr no : Nat} {v1 v2 v3 v4 : Int32}
abbrev isRu (p : Nat) (k o : Int32) : Prop := (k = 0 ∧ isP p o) ∨ (k = 1 ∧ isP (p - 1) o) ∨ (k = 2 ∧ isP 3 o)
theorem isR_p2 {x : Int32} (h : 2 ≤ p) : isR 0 ((p : Int) - 2) x ↔ isP (p - 1) x := by unfold isR isP; omega
theorem SS_isRuled_s {K : Int32 → Prop} (hp : fi 7 = nI p) (h2 : 2 ≤ p) (h6 : p ≤ 6) (h : K (bI (isRu p v1 v2))) : SS_isRuled_w fi fl ai al v1 v2 K := by
  unfold SS_isRuled_w
  refine br_i Iff.rfl (fun e => ?_) (fun e0 => br_i Iff.rfl (fun e => ?_) (fun e1 => br_i Iff.rfl (fun e => ?_) (fun e2 => ?_)))
  · subst e
    refine Gi_hasPart_s hp h6 ⟨bI_bool _, ?_⟩
    rw [bI_iff (show isP p v2 ↔ isRu p 0 v2 from ⟨fun q => Or.inl ⟨rfl, q⟩, fun q => by rcases q with q | q | q; exact q.2; exact absurd q.1 (by decide); exact absurd q.1 (by decide)⟩)]
    exact h
  · subst e
    refine SS_within_r (a := 0) (b := (p : Int) - 2) rfl (by rw [hp]; exact nI_m2 (by omega)) ⟨bI_bool _, ?_⟩
    rw [bI_iff (show isR 0 ((p : Int) - 2) v2 ↔ isRu p 1 v2 from (isR_p2 h2).trans ⟨fun q => Or.inr (Or.inl ⟨rfl, q⟩), fun q => by rcases q with q | q | q; exact absurd q.1 (by decide); exact q.2; exact absurd q.1 (by decide)⟩)]
    exact h
  · subst e
    refine SS_isSupport_s ⟨bI_bool _, ?_⟩
    rw [bI_iff (show isP 3 v2 ↔ isRu p 2 v2 from ⟨fun q => Or.inr (Or.inr ⟨rfl, q⟩), fun q => by rcases q with q | q | q; exact absurd q.1 (by decide); exact absurd q.1 (by decide); exact q.2⟩)]
    exact h
  · rw [bI_f (by rintro (q | q | q); exact e0 q.1; exact e1 q.1; exact e2 q.1)] at h
    exact h
theorem SS_rule_s {K : Int64 → (Nat → Int32) → (Nat → Nat → Int32) → Prop} (hp : fi 7 = nI p) (h2 : 2 ≤ p) (h6 : p ≤ 6) (hc : fi 6 = nI nr) (h8 : nr ≤ 8) (hy : isRu p v1 v2 → v3.toInt ≤ v4.toInt → nr < 8 → K (nI nr).toInt64 (va_up fi 6 (nI (nr + 1))) (va_up (va_up (va_up (va_up ai 13 (upd (ai 13) nr v1)) 14 (upd (ai 14) nr v2)) 15 (upd (ai 15) nr v3)) 16 (upd (ai 16) nr v4))) (hno : ¬ (isRu p v1 v2 ∧ v3.toInt ≤ v4.toInt ∧ nr < 8) → K (-1000000000000000000) fi ai) : SS_rule_w fi fl ai al v1 v2 v3 v4 K := by
  unfold SS_rule_w
  refine SS_isRuled_s hp h2 h6 (br_b (fun h1 => ?_) (fun h => hno (fun q => h q.1)))
  refine br_i i_lt (fun h => hno (fun q => by have := q.2.1; omega)) (fun h3 => ?_)
  rw [hc]
  refine br_i (nI_lt' (m := 8) rfl (by omega) (by omega)) (fun h4 => ?_) (fun h => hno (fun q => h q.2.2))
  unfold Ru_put_w
  rw [hc]
  simp only [zw_nm]
  rw [nC (by omega), va_s, nI_p1, nI_s1 (by omega)]
  exact ⟨vp_in_nI h4 (by omega), vp_in_nI h4 (by omega), vp_in_nI h4 (by omega), vp_in_nI h4 (by omega), hy h1 (by omega) h4⟩
theorem Mo_rule_s {K : Int64 → (Nat → Int32) → (Nat → Nat → Int32) → Prop} (hp : fi 0 = nI p) (h2 : 2 ≤ p) (h6 : p ≤ 6) (hc : fi 6 = nI nr) (h8 : nr ≤ 8) (hy : isRu p v1 v2 → v3.toInt ≤ v4.toInt → nr < 8 → K (nI nr).toInt64 (va_up fi 6 (nI (nr + 1))) (va_up (va_up (va_up (va_up ai 15 (upd (ai 15) nr v1)) 16 (upd (ai 16) nr v2)) 17 (upd (ai 17) nr v3)) 18 (upd (ai 18) nr v4))) (hno : ¬ (isRu p v1 v2 ∧ v3.toInt ≤ v4.toInt ∧ nr < 8) → K (-1000000000000000000) fi ai) : Mo_rule_w fi fl ai al v1 v2 v3 v4 K := by
  unfold Mo_rule_w
  refine jn1_o (fun y => (y = 1 ∧ isRu p v1 v2) ∨ (y = 0 ∧ ¬ isRu p v1 v2)) (fun y hY => ?_) (fun J hJ => ?_)
  · rcases hY with ⟨rfl, h1⟩ | ⟨rfl, h1⟩
    · refine if1 ?_
      refine br_i i_lt (fun h => hno (fun q => by have := q.2.1; omega)) (fun h3 => ?_)
      rw [hc]
      refine br_i (eq_nI (m := 8) rfl (by omega) (by omega)) (fun h => hno (fun q => by have := q.2.2; omega)) (fun h4 => ?_)
      simp only [zw_nm]
      rw [nC (by omega), va_s, nI_p1, nI_s1 (by omega)]
      exact ⟨vp_in_nI (by omega) (by omega), vp_in_nI (by omega) (by omega), vp_in_nI (by omega) (by omega), vp_in_nI (by omega) (by omega), hy h1 (by omega) (by omega)⟩
    · exact if0 (hno (fun q => h1 q.1))
  · refine jn0_o (isRu p v1 v2) (fun h => hJ 1 (Or.inl ⟨rfl, h⟩)) (fun J1 hJ1 => ?_)
    refine jn0_o (¬ (v1 = 0 ∧ isP p v2)) (fun n0 => ?_) (fun J2 hJ2 => ?_)
    · refine jn0_o (¬ (v1 = 1 ∧ isP (p - 1) v2)) (fun n1 => ?_) (fun J3 hJ3 => ?_)
      · refine jn0_o (¬ (v1 = 2 ∧ isP 3 v2)) (fun n2 => hJ 0 (Or.inr ⟨rfl, by rintro (q | q | q); exact n0 q; exact n1 q; exact n2 q⟩)) (fun J4 hJ4 => ?_)
        refine br_i Iff.rfl (fun e => ?_) (fun e => hJ4 (fun q => e q.1))
        exact Mo_in_r (a := 0) (b := 2) rfl rfl (br_b (fun h => hJ1 (Or.inr (Or.inr ⟨e, isR3.mp h⟩))) (fun h => hJ4 (fun q => h (isR3.mpr q.2))))
      · refine br_i Iff.rfl (fun e => ?_) (fun e => hJ3 (fun q => e q.1))
        exact Mo_in_r (a := 0) (b := (p : Int) - 2) rfl (by rw [i_l, hp]; exact nI_m2 (by omega)) (br_b (fun h => hJ1 (Or.inr (Or.inl ⟨e, (isR_p2 h2).mp h⟩))) (fun h => hJ3 (fun q => h ((isR_p2 h2).mpr q.2))))
    · refine br_i Iff.rfl (fun e => ?_) (fun e => hJ2 (fun q => e q.1))
      exact Mo_isPart_s hp h6 (br_b (fun h => hJ1 (Or.inl ⟨e, h⟩)) (fun h => hJ2 (fun q => h q.2)))
theorem Pl_lastDay_s {K : Int32 → Prop} (h2 : fi 2 = nI ns) (h12 : ns ≤ 12) (h : K (if ns = 0 then 0 else ai 5 (ns - 1))) : Pl_lastDay_w fi fl ai al K := by
  unfold Pl_lastDay_w
  rw [h2]
  refine br_i (nI_le' (c := 0) (m := 0) rfl (by omega) (by omega)) (fun e => ?_) (fun e => ?_)
  · rw [if_pos (by omega)] at h; exact h
  · rw [if_neg (by omega)] at h
    rw [nI_s1 (by omega), nC (by omega)]
    exact ⟨vp_in_nI (by omega) (by omega), h⟩
theorem Mo_lastDay_s {K : Int32 → Prop} (h2 : fi 2 = nI ns) (h12 : ns ≤ 12) (h : K (if ns = 0 then -1 else ai 9 (ns - 1))) : Mo_lastDay_w fi fl ai al K := by
  unfold Mo_lastDay_w
  rw [h2]
  refine br_i (eq_nI (c := 0) (m := 0) rfl (by omega) (by omega)) (fun e => ?_) (fun e => ?_)
  · rw [if_pos (by omega)] at h; exact h
  · rw [if_neg (by omega)] at h
    rw [nI_s1 (by omega), nC (by omega)]
    exact ⟨vp_in_nI (by omega) (by omega), h⟩
theorem Pl_lastDay_p {K : Int32 → Prop} (h2 : fi 2 = nI ns) (h12 : ns ≤ 12) (h0 : 0 < ns) (h : K (ai 5 (ns - 1))) : Pl_lastDay_w fi fl ai al K := Pl_lastDay_s h2 h12 (by rw [if_neg (show ¬ ns = 0 by omega)]; exact h)
theorem Mo_lastDay_p {K : Int32 → Prop} (h2 : fi 2 = nI ns) (h12 : ns ≤ 12) (h0 : 0 < ns) (h : K (ai 9 (ns - 1))) : Mo_lastDay_w fi fl ai al K := Mo_lastDay_s h2 h12 (by rw [if_neg (show ¬ ns = 0 by omega)]; exact h)
theorem SS_stage_s {K : Int64 → (Nat → Int32) → (Nat → Nat → Int32) → Prop} (h2 : fi 2 = nI ns) (h12 : ns ≤ 12) (hy : ns < 12 → isR 0 20000 v1 → (ns = 0 ∨ (ai 5 (ns - 1)).toInt < v1.toInt) → K (nI ns).toInt64 (if v1 ≤ fi 5 then va_up fi 2 (nI (ns + 1)) else va_up (va_up fi 2 (nI (ns + 1))) 5 (-1)) (va_up ai 5 (upd (ai 5) ns v1))) (hno : ¬ (ns < 12 ∧ isR 0 20000 v1 ∧ (ns = 0 ∨ (ai 5 (ns - 1)).toInt < v1.toInt)) → K (-1000000000000000000) fi ai) : SS_stage_w fi fl ai al v1 K := by
  unfold SS_stage_w Pl_takesStage_w
  rw [h2]
  refine br_i (le_nI (m := 12) rfl (by omega) (by omega)) (fun h => if0 (hno (fun q => by have := q.1; omega))) (fun h3 => ?_)
  refine SS_within_r (a := 0) (b := 20000) rfl rfl (br_b (fun h1 => ?_) (fun h => if0 (hno (fun q => h q.2.1))))
  refine jn0_o (ns = 0 ∨ (ai 5 (ns - 1)).toInt < v1.toInt) (fun h4 => ?_) (fun J hJ => ?_)
  · refine if1 ?_
    unfold Pl_openStage_w Pl_forgetPassedEnd_w
    rw [h2]
    simp only [zw_nm]
    rw [nC (by omega), nI_p1]
    refine ⟨vp_in_nI (by omega) (by omega), Pl_lastDay_p (ns := ns + 1) (va_s _ _ _) (by omega) (by omega) ?_⟩
    rw [va_s, Nat.add_sub_cancel, pk_us]
    have hk := hy (by omega) h1 h4
    refine br_i Iff.rfl (fun h5 => ?_) (fun h5 => ?_)
    · rw [if_pos (show v1 ≤ fi 5 from h5)] at hk
      rw [va_s, nI_s1 (by omega), Nat.add_sub_cancel]
      exact hk
    · rw [if_neg (show ¬ v1 ≤ fi 5 from h5)] at hk
      rw [va_n _ _ (show 2 ≠ 5 by omega), va_s, nI_s1 (by omega), Nat.add_sub_cancel]
      exact hk
  · refine br_i (eq_nI (c := 0) (m := 0) rfl (by omega) (by omega)) (fun e => hJ (Or.inl e)) (fun e => Pl_lastDay_p h2 h12 (by omega) ?_)
    exact br_i i_le (fun h => if0 (hno (fun q => by rcases q.2.2 with q | q <;> omega))) (fun h => hJ (Or.inr (by omega)))
theorem Mo_stage_s {K : Int64 → (Nat → Int32) → (Nat → Nat → Int32) → Prop} (h2 : fi 2 = nI ns) (h12 : ns ≤ 12) (hy : ns < 12 → isR 0 20000 v1 → (ns = 0 ∨ (ai 9 (ns - 1)).toInt < v1.toInt) → K (nI ns).toInt64 (va_up (va_up fi 2 (nI (ns + 1))) 4 (if v1 ≤ fi 4 then fi 4 else -1)) (va_up ai 9 (upd (ai 9) ns v1))) (hno : ¬ (ns < 12 ∧ isR 0 20000 v1 ∧ (ns = 0 ∨ (ai 9 (ns - 1)).toInt < v1.toInt)) → K (-1000000000000000000) fi ai) : Mo_stage_w fi fl ai al v1 K := by
  unfold Mo_stage_w
  refine Mo_in_r (a := 0) (b := 20000) rfl rfl (br_b (fun h1 => ?_) (fun h => hno (fun q => h q.2.1)))
  refine Mo_lastDay_s h2 h12 ?_
  refine br_i i_le (fun h => hno (fun q => ?_)) (fun h4 => ?_)
  · rcases q.2.2 with e | e
    · rw [if_pos e, show (-1 : Int32).toInt = -1 from rfl] at h; have := h1.1; omega
    · by_cases e0 : ns = 0
      · rw [if_pos e0, show (-1 : Int32).toInt = -1 from rfl] at h; have := h1.1; omega
      · rw [if_neg e0] at h; omega
  · have h5 : ns = 0 ∨ (ai 9 (ns - 1)).toInt < v1.toInt := by
      by_cases e0 : ns = 0
      · exact Or.inl e0
      · rw [if_neg e0] at h4; exact Or.inr (by omega)
    rw [h2]
    refine br_i (eq_nI (m := 12) rfl (by omega) (by omega)) (fun h => hno (fun q => by have := q.1; omega)) (fun h3 => ?_)
    simp only [zw_nm]
    rw [nC (by omega), nI_p1]
    refine ⟨vp_in_nI (by omega) (by omega), ?_⟩
    have hk := hy (by omega) h1 h5
    unfold Mo_lookAtEnd_w
    refine jn0_o (¬ v1 ≤ fi 4) (fun h6 => ?_) (fun J hJ => ?_)
    · rw [if_neg h6] at hk
      simp only [zw_nm]
      rw [va_n _ _ (show 2 ≠ 4 by omega), va_s, nI_s1 (by omega), Nat.add_sub_cancel]
      exact hk
    · rw [va_s]
      refine br_i (eq_nI (c := 0) (m := 0) rfl (by omega) (by omega)) (fun e => absurd e (by omega)) (fun e => Mo_lastDay_p (ns := ns + 1) (va_s _ _ _) (by omega) (by omega) ?_)
      rw [va_s, Nat.add_sub_cancel, pk_us]
      refine br_i Iff.rfl (fun h6 => ?_) (fun h6 => hJ h6)
      rw [if_pos (show v1 ≤ fi 4 from h6)] at hk
      simp only [zw_nm]
      rw [va_n _ _ (show 2 ≠ 4 by omega), va_s, nI_s1 (by omega), Nat.add_sub_cancel]
      exact hk
theorem SS_end_s {K : Int32 → (Nat → Int32) → Prop} (h2 : fi 2 = nI ns) (h12 : ns ≤ 12) (hy : 0 < ns → (ai 5 (ns - 1)).toInt ≤ v1.toInt → v1.toInt ≤ 40000 → K 1 (va_up fi 5 v1)) (hno : ¬ (0 < ns ∧ (ai 5 (ns - 1)).toInt ≤ v1.toInt ∧ v1.toInt ≤ 40000) → K 0 fi) : SS_end_w fi fl ai al v1 K := by
  unfold SS_end_w
  rw [h2]
  refine br_i (eq_nI (c := 0) (m := 0) rfl (by omega) (by omega)) (fun e => hno (fun q => by have := q.1; omega)) (fun e => Pl_lastDay_p h2 h12 (by omega) ?_)
  refine br_i i_lt (fun h => hno (fun q => by have := q.2.1; omega)) (fun h3 => br_i i_le (fun h4 => ?_) (fun h4 => ?_))
  · rw [show (40000 : Int32).toInt = 40000 from rfl] at h4
    exact hy (by omega) (by omega) h4
  · rw [show (40000 : Int32).toInt = 40000 from rfl] at h4
    exact hno (fun q => h4 q.2.2)
theorem Mo_end_s {K : Int32 → (Nat → Int32) → Prop} (h2 : fi 2 = nI ns) (h12 : ns ≤ 12) (hy : 0 < ns → (ai 9 (ns - 1)).toInt ≤ v1.toInt → v1.toInt ≤ 40000 → K 1 (va_up fi 4 v1)) (hno : ¬ (0 < ns ∧ (ai 9 (ns - 1)).toInt ≤ v1.toInt ∧ v1.toInt ≤ 40000) → K 0 fi) : Mo_end_w fi fl ai al v1 K := by
  unfold Mo_end_w
  rw [h2]
  refine br_i (eq_nI (c := 0) (m := 0) rfl (by omega) (by omega)) (fun e => hno (fun q => by have := q.1; omega)) (fun e => Mo_lastDay_p h2 h12 (by omega) ?_)
  refine br_i i_lt (fun h => hno (fun q => by have := q.2.1; omega)) (fun h3 => br_i i_le (fun h4 => ?_) (fun h4 => ?_))
  · rw [show (40000 : Int32).toInt = 40000 from rfl] at h4
    exact hy (by omega) (by omega) h4
  · rw [show (40000 : Int32).toInt = 40000 from rfl] at h4
    exact hno (fun q => h4 q.2.2)
end SD
theorem s_rule : st_rule Rl := by
  intro fi fl ai al gi gl bi bl v1 v2 v3 v4 hR
  obtain ⟨p, nc, ns, na, nd, nr, no, hn, hC, hg, hk, hd, ha, hw, hf, he, ho, hr, hq⟩ := Rl.e hR
  obtain ⟨n1, n2, n3, n4, n5, n6, n7, n8⟩ := id hn
  obtain ⟨c7, g0, c1, g1, c2, g2, c3, g3, c4, c6, g6, c11, g7, c5, c0, c0r⟩ := id hC
  refine SS_rule_s c7 n1 n2 c6 n7 (fun h1 h2 h3 => ?_) (fun h => ?_)
  · refine Mo_rule_s g0 n1 n2 g6 n7 (fun _ _ _ => ?_) (fun h => absurd ⟨h1, h2, h3⟩ h)
    refine ⟨rfl, Rl.i p nc ns na nd (nr + 1) no ⟨⟨n1, n2, n3, n4, n5, n6, h3, n8⟩, ⟨c7, g0, c1, g1, c2, g2, c3, g3, c4, rfl, rfl, c11, g7, c5, c0, c0r⟩, hg.c (fun q h1 h2 => ?_) (fun q h1 h2 => ?_), hk, hd, ha, hw, hf, he, ho, ?_, hq⟩⟩
    · rw [va_n _ _ (show q ≠ 16 by omega), va_n _ _ (show q ≠ 15 by omega), va_n _ _ (show q ≠ 14 by omega), va_n _ _ (show q ≠ 13 by omega)]
    · rw [va_n _ _ (show q ≠ 18 by omega), va_n _ _ (show q ≠ 17 by omega), va_n _ _ (show q ≠ 16 by omega), va_n _ _ (show q ≠ 15 by omega)]
    · intro r hr2
      show upd (bi 15) nr v1 r = upd (ai 13) nr v1 r ∧ upd (bi 16) nr v2 r = upd (ai 14) nr v2 r ∧ upd (bi 17) nr v3 r = upd (ai 15) nr v3 r ∧ upd (bi 18) nr v4 r = upd (ai 16) nr v4 r ∧ isRu p (upd (ai 13) nr v1 r) (upd (ai 14) nr v2 r)
      by_cases e : r = nr
      · subst e; simp only [pk_us]; exact ⟨trivial, trivial, trivial, trivial, h1⟩
      · simp only [pk_un e]; exact hr r (by omega)
  · exact Mo_rule_s g0 n1 n2 g6 n7 (fun h1 h2 h3 => absurd ⟨h1, h2, h3⟩ h) (fun _ => ⟨rfl, hR⟩)
theorem s_end : st_end Rl := by
  intro fi fl ai al gi gl bi bl v1 hR
  obtain ⟨p, nc, ns, na, nd, nr, no, hn, hC, hg, hk, hd, ha, hw, hf, he, ho, hr, hq⟩ := Rl.e hR
  obtain ⟨n1, n2, n3, n4, n5, n6, n7, n8⟩ := id hn
  obtain ⟨c7, g0, c1, g1, c2, g2, c3, g3, c4, c6, g6, c11, g7, c5, c0, c0r⟩ := id hC
  refine SS_end_s c2 n4 (fun h1 h2 h3 => ?_) (fun h => ?_)
  · refine Mo_end_s g2 n4 (fun _ _ _ => ?_) (fun h => absurd ⟨h1, by rw [(hd.1 _ (by omega)).1]; exact h2, h3⟩ h)
    exact ⟨rfl, Rl.i p nc ns na nd nr no ⟨hn, ⟨c7, g0, c1, g1, c2, g2, c3, g3, c4, c6, g6, c11, g7, rfl, c0, c0r⟩, hg, hk, hd, ha, hw, hf, Or.inr ⟨h1, h2, h3⟩, ho, hr, hq⟩⟩
  · exact Mo_end_s g2 n4 (fun h1 h2 h3 => absurd ⟨h1, by rw [← (hd.1 _ (by omega)).1]; exact h2, h3⟩ h) (fun _ => ⟨rfl, hR⟩)
theorem s_stage : st_stage Rl := by
  intro fi fl ai al gi gl bi bl v1 hR
  obtain ⟨p, nc, ns, na, nd, nr, no, hn, hC, hg, hk, hd, ha, hw, hf, he, ho, hr, hq⟩ := Rl.e hR
  obtain ⟨n1, n2, n3, n4, n5, n6, n7, n8⟩ := id hn
  obtain ⟨c7, g0, c1, g1, c2, g2, c3, g3, c4, c6, g6, c11, g7, c5, c0, c0r⟩ := id hC
  have e : (ns = 0 ∨ (bi 9 (ns - 1)).toInt < v1.toInt) ↔ (ns = 0 ∨ (ai 5 (ns - 1)).toInt < v1.toInt) := by
    rcases Nat.eq_zero_or_pos ns with h | h
    · simp [h]
    · rw [(hd.1 (ns - 1) (by omega)).1]
  refine SS_stage_s c2 n4 (fun h1 h2 h3 => ?_) (fun h => ?_)
  · refine Mo_stage_s g2 n4 (fun _ _ _ => ?_) (fun h => absurd ⟨h1, h2, e.mpr h3⟩ h)
    have hd' : Rd (ns + 1) (va_up ai 5 (upd (ai 5) ns v1)) (va_up bi 9 (upd (bi 9) ns v1)) := by
      refine ⟨fun k hk2 => ?_, fun k hk2 => ?_⟩
      · show upd (bi 9) ns v1 k = upd (ai 5) ns v1 k ∧ isR 0 20000 (upd (ai 5) ns v1 k)
        by_cases e2 : k = ns
        · subst e2; rw [pk_us, pk_us]; exact ⟨rfl, h2⟩
        · rw [pk_un e2, pk_un e2]; exact hd.1 k (by omega)
      · show (upd (ai 5) ns v1 k).toInt < (upd (ai 5) ns v1 (k + 1)).toInt
        rw [pk_un (show k ≠ ns by omega)]
        by_cases e2 : k + 1 = ns
        · rw [e2, pk_us]
          rcases h3 with h3 | h3
          · omega
          · rw [show k = ns - 1 by omega]; exact h3
        · rw [pk_un e2]; exact hd.2 k (by omega)
    have ha' : Ra p (ns + 1) na (va_up ai 5 (upd (ai 5) ns v1)) (va_up bi 9 (upd (bi 9) ns v1)) := by
      refine ⟨fun a h => ?_, ha.2⟩
      obtain ⟨q1, q2, q3, q4, q5, q6⟩ := ha.1 a h
      exact ⟨q1, q2, q3, q4, ⟨q5.1, show (ai 9 a).toInt < ((ns + 1 : Nat) : Int) by have := q5.2; omega⟩, q6⟩
    have hg' : Rg (va_up ai 5 (upd (ai 5) ns v1)) (va_up bi 9 (upd (bi 9) ns v1)) := hg.c (fun q h1 h2 => va_n _ _ (by omega)) (fun q h1 h2 => va_n _ _ (by omega))
    rw [← c5]
    by_cases h5 : v1 ≤ fi 5
    · rw [if_pos h5, if_pos h5]
      refine ⟨rfl, Rl.i p nc (ns + 1) na nd nr no ⟨⟨n1, n2, n3, h1, n5, n6, n7, n8⟩, ⟨c7, g0, c1, g1, rfl, rfl, c3, g3, c4, c6, g6, c11, g7, rfl, c0, c0r⟩, hg', hk, hd', ha', hw, hf, ?_, ho, hr, hq⟩⟩
      refine Or.inr ⟨by omega, ?_, ?_⟩
      · show (upd (ai 5) ns v1 (ns + 1 - 1)).toInt ≤ (fi 5).toInt
        rw [Nat.add_sub_cancel, pk_us]
        exact i_le.mp h5
      · show (fi 5).toInt ≤ 40000
        rcases he with he | he
        · rw [he]; decide
        · exact he.2.2
    · rw [if_neg h5, if_neg h5]
      exact ⟨rfl, Rl.i p nc (ns + 1) na nd nr no ⟨⟨n1, n2, n3, h1, n5, n6, n7, n8⟩, ⟨c7, g0, c1, g1, rfl, rfl, c3, g3, c4, c6, g6, c11, g7, rfl, c0, c0r⟩, hg', hk, hd', ha', hw, hf, Or.inl rfl, ho, hr, hq⟩⟩
  · exact Mo_stage_s g2 n4 (fun h1 h2 h3 => absurd ⟨h1, h2, e.mp h3⟩ h) (fun _ => ⟨rfl, hR⟩)
