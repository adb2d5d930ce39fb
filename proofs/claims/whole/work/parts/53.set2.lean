/-! PURE: creep, most, rule, stage, end, order -/
theorem br_i {c d A B : Prop} [Decidable c] (e : c ↔ d) (ht : d → A) (hf : ¬ d → B) : if c then A else B := by
  by_cases h : c
  · rw [if_pos h]; exact ht (e.mp h)
  · rw [if_neg h]; exact hf (fun q => h (e.mpr q))
theorem if0 {A B : Prop} (h : A) : if (0 : Int32) = 0 then A else B := by rw [if_pos rfl]; exact h
theorem if1 {A B : Prop} (h : B) : if (1 : Int32) = 0 then A else B := by rw [if_neg (show ¬ (1 : Int32) = 0 by decide)]; exact h
theorem jn0_o {R : Prop} {B : Prop → Prop} (Y : Prop) (h : Y → R) (g : ∀ J : Prop, (Y → J) → B J) : zw_jn0 R B := g R h
theorem jn1_o {A1 : Type} {R : A1 → Prop} {B : (A1 → Prop) → Prop} (Y : A1 → Prop) (h : ∀ y, Y y → R y) (g : ∀ J : A1 → Prop, (∀ y, Y y → J y) → B J) : zw_jn1 R B := g R h
theorem jn2_o {A1 A2 : Type} {R : A1 → A2 → Prop} {B : (A1 → A2 → Prop) → Prop} (Y : A1 → A2 → Prop) (h : ∀ y z, Y y z → R y z) (g : ∀ J : A1 → A2 → Prop, (∀ y z, Y y z → J y z) → B J) : zw_jn2 R B := g R h
theorem jn3_o {A1 A2 A3 : Type} {R : A1 → A2 → A3 → Prop} {B : (A1 → A2 → A3 → Prop) → Prop} (Y : A1 → A2 → A3 → Prop) (h : ∀ y z w, Y y z w → R y z w) (g : ∀ J : A1 → A2 → A3 → Prop, (∀ y z w, Y y z w → J y z w) → B J) : zw_jn3 R B := g R h
theorem jn4_o {A1 A2 A3 A4 : Type} {R : A1 → A2 → A3 → A4 → Prop} {B : (A1 → A2 → A3 → A4 → Prop) → Prop} (Y : A1 → A2 → A3 → A4 → Prop) (h : ∀ y z w u, Y y z w u → R y z w u) (g : ∀ J : A1 → A2 → A3 → A4 → Prop, (∀ y z w u, Y y z w u → J y z w u) → B J) : zw_jn4 R B := g R h
theorem le_nI {c : Int32} {m n : Nat} (hc : c = nI m) (hm : m < 2147483648) (hn : n < 2147483648) : c ≤ nI n ↔ m ≤ n := by subst hc; rw [i_le, nT hm, nT hn]; omega
theorem nI_le' {c : Int32} {m n : Nat} (hc : c = nI m) (hm : m < 2147483648) (hn : n < 2147483648) : nI n ≤ c ↔ n ≤ m := by subst hc; rw [i_le, nT hm, nT hn]; omega
theorem lt_nI {c : Int32} {m n : Nat} (hc : c = nI m) (hm : m < 2147483648) (hn : n < 2147483648) : c < nI n ↔ m < n := by subst hc; rw [i_lt, nT hm, nT hn]; omega
theorem nI_lt' {c : Int32} {m n : Nat} (hc : c = nI m) (hm : m < 2147483648) (hn : n < 2147483648) : nI n < c ↔ n < m := by subst hc; rw [i_lt, nT hm, nT hn]; omega
theorem eq_nI {c : Int32} {m n : Nat} (hc : c = nI m) (hm : m < 2147483648) (hn : n < 2147483648) : nI n = c ↔ n = m := by subst hc; exact ⟨nI_inj hn hm, fun h => by rw [h]⟩
theorem nI_p1 (n : Nat) : nI n + (1 : Int32) = nI (n + 1) := nI_1 n
theorem nI_s1 {n : Nat} (h : 0 < n) : nI n - (1 : Int32) = nI (n - 1) := by rw [show (1 : Int32) = nI 1 from rfl]; exact pk_sub h
section SC
variable {fi : Nat → Int32} {fl : Nat → Int64} {ai : Nat → Nat → Int32} {al : Nat → Nat → Int64} {p nc ns nr no : Nat} {v1 v2 v3 v4 : Int32}
theorem SS_creep_s {K : Int32 → (Nat → Int32) → (Nat → Nat → Int32) → Prop} (hc : fi 1 = nI nc) (h8 : nc ≤ 8) (hy : nc < 8 → isR 0 20000 v1 → isR 0 5000 v2 → (nc = 0 ∨ ((ai 2 (nc - 1)).toInt < v1.toInt ∧ (ai 3 (nc - 1)).toInt ≤ v2.toInt)) → K 1 (va_up fi 1 (nI (nc + 1))) (va_up (va_up ai 2 (upd (ai 2) nc v1)) 3 (upd (ai 3) nc v2))) (hno : ¬ (nc < 8 ∧ isR 0 20000 v1 ∧ isR 0 5000 v2 ∧ (nc = 0 ∨ ((ai 2 (nc - 1)).toInt < v1.toInt ∧ (ai 3 (nc - 1)).toInt ≤ v2.toInt))) → K 0 fi ai) : SS_creep_w fi fl ai al v1 v2 K := by
  unfold SS_creep_w Cr_tell_w
  rw [hc]
  refine br_i (le_nI (m := 8) rfl (by omega) (by omega)) (fun h => ⟨Or.inl rfl, hno (fun q => by have := q.1; omega)⟩) (fun h9 => ?_)
  refine SS_within_r (a := 0) (b := 20000) rfl rfl (br_b (fun h1 => ?_) (fun h => ⟨Or.inl rfl, hno (fun q => h q.2.1)⟩))
  refine SS_within_r (a := 0) (b := 5000) rfl rfl (br_b (fun h2 => ?_) (fun h => ⟨Or.inl rfl, hno (fun q => h q.2.2.1)⟩))
  refine jn0_o (nc = 0 ∨ ((ai 2 (nc - 1)).toInt < v1.toInt ∧ (ai 3 (nc - 1)).toInt ≤ v2.toInt)) (fun h3 => ?_) (fun J hJ => ?_)
  · simp only [zw_nm, nI_p1]
    rw [nC (by omega)]
    exact ⟨vp_in_nI (by omega) (by omega), vp_in_nI (by omega) (by omega), Or.inr rfl, hy (by omega) h1 h2 h3⟩
  · refine br_i (nI_le' (c := 0) (m := 0) rfl (by omega) (by omega)) (fun h => hJ (Or.inl (by omega))) (fun h => ?_)
    rw [nI_s1 (by omega), nC (by omega)]
    refine ⟨vp_in_nI (by omega) (by omega), br_i i_le (fun h3 => ⟨Or.inl rfl, hno (fun q => by rcases q.2.2.2 with h4 | h4 <;> omega)⟩) (fun h3 => ⟨vp_in_nI (by omega) (by omega), br_i i_le (fun h4 => hJ (Or.inr ⟨by omega, h4⟩)) (fun h4 => ⟨Or.inl rfl, hno (fun q => by rcases q.2.2.2 with h5 | h5 <;> omega)⟩)⟩)⟩
theorem Mo_creep_s {K : Int32 → (Nat → Int32) → (Nat → Nat → Int32) → Prop} (hc : fi 1 = nI nc) (h8 : nc ≤ 8) (hy : nc < 8 → isR 0 20000 v1 → isR 0 5000 v2 → (nc = 0 ∨ ((ai 6 (nc - 1)).toInt < v1.toInt ∧ (ai 7 (nc - 1)).toInt ≤ v2.toInt)) → K 1 (va_up fi 1 (nI (nc + 1))) (va_up (va_up ai 6 (upd (ai 6) nc v1)) 7 (upd (ai 7) nc v2))) (hno : ¬ (nc < 8 ∧ isR 0 20000 v1 ∧ isR 0 5000 v2 ∧ (nc = 0 ∨ ((ai 6 (nc - 1)).toInt < v1.toInt ∧ (ai 7 (nc - 1)).toInt ≤ v2.toInt))) → K 0 fi ai) : Mo_creep_w fi fl ai al v1 v2 K := by
  unfold Mo_creep_w
  rw [hc]
  refine jn1_o (fun y => (y = 1 ∧ (nc = 0 ∨ ((ai 6 (nc - 1)).toInt < v1.toInt ∧ (ai 7 (nc - 1)).toInt ≤ v2.toInt))) ∨ (y = 0 ∧ ¬ (nc = 0 ∨ ((ai 6 (nc - 1)).toInt < v1.toInt ∧ (ai 7 (nc - 1)).toInt ≤ v2.toInt)))) (fun y hY => ?_) (fun J hJ => ?_)
  · refine Mo_in_r (a := 0) (b := 20000) rfl rfl (br_b (fun h1 => ?_) (fun h => hno (fun q => h q.2.1)))
    refine Mo_in_r (a := 0) (b := 5000) rfl rfl (br_b (fun h2 => ?_) (fun h => hno (fun q => h q.2.2.1)))
    rcases hY with ⟨rfl, h3⟩ | ⟨rfl, h3⟩
    · rw [if_neg (by decide)]
      refine br_i (eq_nI (m := 8) rfl (by omega) (by omega)) (fun h => hno (fun q => by have := q.1; omega)) (fun h9 => ?_)
      simp only [zw_nm, nI_p1]
      rw [nC (by omega)]
      exact ⟨vp_in_nI (by omega) (by omega), vp_in_nI (by omega) (by omega), hy (by omega) h1 h2 h3⟩
    · rw [if_pos rfl]
      exact hno (fun q => h3 q.2.2.2)
  · refine jn0_o (nc = 0 ∨ ((ai 6 (nc - 1)).toInt < v1.toInt ∧ (ai 7 (nc - 1)).toInt ≤ v2.toInt)) (fun h3 => hJ 1 (Or.inl ⟨rfl, h3⟩)) (fun J2 hJ2 => ?_)
    refine br_i (eq_nI (c := 0) (m := 0) rfl (by omega) (by omega)) (fun h => hJ2 (Or.inl h)) (fun h => ?_)
    rw [nI_s1 (by omega), nC (by omega)]
    refine ⟨vp_in_nI (by omega) (by omega), jn0_o (¬ (nc = 0 ∨ ((ai 6 (nc - 1)).toInt < v1.toInt ∧ (ai 7 (nc - 1)).toInt ≤ v2.toInt))) (fun h3 => hJ 0 (Or.inr ⟨rfl, h3⟩)) (fun J3 hJ3 => ?_)⟩
    refine br_i i_le (fun h3 => hJ3 (by omega)) (fun h3 => ⟨vp_in_nI (by omega) (by omega), br_i i_lt (fun h4 => hJ3 (by omega)) (fun h4 => hJ2 (Or.inr ⟨by omega, by omega⟩))⟩)
theorem SS_most_s {K : Int32 → (Nat → Int32) → Prop} (hy : isR 0 1000 v1 → K 1 (va_up fi 0 v1)) (hno : ¬ isR 0 1000 v1 → K 0 fi) : SS_most_w fi fl ai al v1 K := by
  unfold SS_most_w
  exact SS_within_r (a := 0) (b := 1000) rfl rfl (br_b hy hno)
theorem Mo_most_s {K : Int32 → (Nat → Int32) → Prop} (hy : isR 0 1000 v1 → K 1 (va_up fi 5 v1)) (hno : ¬ isR 0 1000 v1 → K 0 fi) : Mo_most_w fi fl ai al v1 K := by
  unfold Mo_most_w
  exact Mo_in_r (a := 0) (b := 1000) rfl rfl (br_b hy hno)
theorem SS_order_s {K : Int64 → Prop} (hc : fi 11 = nI no) (h8 : no ≤ 6) (hy : ∀ k, k < no → v1 = nI k → K (ai 60 k).toInt64) (hno : ¬ isP no v1 → K (-1000000000000000000)) : SS_order_w fi fl ai al v1 K := by
  unfold SS_order_w
  refine SS_within_r (a := 0) (b := (no : Int) - 1) rfl (by rw [hc]; exact nI_m1 (by omega)) (br_b (fun h => ?_) (fun h => hno (fun q => h (isP_R.mpr q))))
  obtain ⟨k, hk, hk2, rfl⟩ := isP_of (isP_R.mp h)
  rw [nC hk2]
  exact ⟨vp_in_nI (by omega) (by omega), hy k hk rfl⟩
theorem Mo_order_s {K : Int64 → Prop} (hc : fi 7 = nI no) (h8 : no ≤ 6) (hy : ∀ k, k < no → v1 = nI k → K (ai 19 k).toInt64) (hno : ¬ isP no v1 → K (-1000000000000000000)) : Mo_order_w fi fl ai al v1 K := by
  unfold Mo_order_w
  refine Mo_in_r (a := 0) (b := (no : Int) - 1) rfl (by rw [i_l, hc]; exact nI_m1 (by omega)) (br_b (fun h => ?_) (fun h => hno (fun q => h (isP_R.mpr q))))
  obtain ⟨k, hk, hk2, rfl⟩ := isP_of (isP_R.mp h)
  rw [nC hk2]
  exact ⟨vp_in_nI (by omega) (by omega), hy k hk rfl⟩
end SC
theorem s_creep : st_creep Rl := by
  intro fi fl ai al gi gl bi bl v1 v2 hR
  obtain ⟨p, nc, ns, na, nd, nr, no, hn, hC, hg, hk, hd, ha, hw, hf, he, ho, hr, hq⟩ := Rl.e hR
  obtain ⟨n1, n2, n3, n4, n5, n6, n7, n8⟩ := id hn
  obtain ⟨c7, g0, c1, g1, c2, g2, c3, g3, c4, c6, g6, c11, g7, c5, c0, c0r⟩ := id hC
  have e : (nc = 0 ∨ ((bi 6 (nc - 1)).toInt < v1.toInt ∧ (bi 7 (nc - 1)).toInt ≤ v2.toInt)) ↔ (nc = 0 ∨ ((ai 2 (nc - 1)).toInt < v1.toInt ∧ (ai 3 (nc - 1)).toInt ≤ v2.toInt)) := by
    rcases Nat.eq_zero_or_pos nc with h | h
    · simp [h]
    · rw [(hk.1 (nc - 1) (by omega)).1, (hk.1 (nc - 1) (by omega)).2.1]
  refine SS_creep_s c1 n3 (fun h0 h1 h2 h3 => ?_) (fun h => ?_)
  · refine Mo_creep_s g1 n3 (fun _ _ _ _ => ?_) (fun h => absurd ⟨h0, h1, h2, e.mpr h3⟩ h)
    refine ⟨rfl, Rl.i p (nc + 1) ns na nd nr no ⟨⟨n1, n2, by omega, n4, n5, n6, n7, n8⟩, ⟨c7, g0, rfl, rfl, c2, g2, c3, g3, c4, c6, g6, c11, g7, c5, c0, c0r⟩, hg.c (fun q h1 h2 => by rw [va_n _ _ (show q ≠ 3 by omega), va_n _ _ (show q ≠ 2 by omega)]) (fun q h1 h2 => by rw [va_n _ _ (show q ≠ 7 by omega), va_n _ _ (show q ≠ 6 by omega)]), ?_, hd, ha, hw, hf, he, ho, hr, hq⟩⟩
    refine ⟨fun k hk2 => ?_, fun k hk2 => ?_⟩
    · show upd (bi 6) nc v1 k = upd (ai 2) nc v1 k ∧ upd (bi 7) nc v2 k = upd (ai 3) nc v2 k ∧ isR 0 5000 (upd (ai 3) nc v2 k)
      by_cases e2 : k = nc
      · subst e2; rw [pk_us, pk_us, pk_us, pk_us]; exact ⟨rfl, rfl, h2⟩
      · rw [pk_un e2, pk_un e2, pk_un e2, pk_un e2]; exact hk.1 k (by omega)
    · show (upd (ai 2) nc v1 k).toInt < (upd (ai 2) nc v1 (k + 1)).toInt
      rw [pk_un (show k ≠ nc by omega)]
      by_cases e2 : k + 1 = nc
      · rw [e2, pk_us]
        rcases h3 with h3 | h3
        · omega
        · rw [show k = nc - 1 by omega]; exact h3.1
      · rw [pk_un e2]; exact hk.2 k (by omega)
  · exact Mo_creep_s g1 n3 (fun h0 h1 h2 h3 => absurd ⟨h0, h1, h2, e.mp h3⟩ h) (fun _ => ⟨rfl, hR⟩)
theorem s_most : st_most Rl := by
  intro fi fl ai al gi gl bi bl v1 hR
  obtain ⟨p, nc, ns, na, nd, nr, no, hn, hC, hg, hk, hd, ha, hw, hf, he, ho, hr, hq⟩ := Rl.e hR
  obtain ⟨c7, g0, c1, g1, c2, g2, c3, g3, c4, c6, g6, c11, g7, c5, c0, c0r⟩ := id hC
  refine SS_most_s (fun h => ?_) (fun h => ?_)
  · exact Mo_most_s (fun _ => ⟨rfl, Rl.i p nc ns na nd nr no ⟨hn, ⟨c7, g0, c1, g1, c2, g2, c3, g3, c4, c6, g6, c11, g7, c5, rfl, h⟩, hg, hk, hd, ha, hw, hf, he, ho, hr, hq⟩⟩) (fun q => absurd h q)
  · exact Mo_most_s (fun q => absurd q h) (fun _ => ⟨rfl, hR⟩)
theorem s_order : st_order Rl := by
  intro fi fl ai al gi gl bi bl v1 hR
  obtain ⟨p, nc, ns, na, nd, nr, no, hn, hC, hg, hk, hd, ha, hw, hf, he, ho, hr, hq⟩ := Rl.e hR
  obtain ⟨n1, n2, n3, n4, n5, n6, n7, n8⟩ := id hn
  obtain ⟨c7, g0, c1, g1, c2, g2, c3, g3, c4, c6, g6, c11, g7, c5, c0, c0r⟩ := id hC
  refine SS_order_s c11 n8 (fun k hk e => ?_) (fun h => ?_)
  · subst e
    refine Mo_order_s g7 n8 (fun k' hk' e => ?_) (fun h => absurd (isP_nI hk (by omega)) h)
    obtain rfl : k = k' := nI_inj (by omega) (by omega) e
    exact ⟨by rw [hq k hk], hR⟩
  · exact Mo_order_s g7 n8 (fun k hk e => absurd (by rw [e]; exact isP_nI hk (by omega)) h) (fun _ => ⟨rfl, hR⟩)
