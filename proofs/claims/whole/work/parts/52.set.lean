/-! PURE: part, flex, share, release, creep, most, rule, stage, end, order -/
theorem va_n {α : Type} (f : Nat → α) {k j : Nat} (v : α) (h : j ≠ k) : va_up f k v j = f j := if_neg h
theorem va_s {α : Type} (f : Nat → α) (k : Nat) (v : α) : va_up f k v k = v := if_pos rfl
theorem nI_inj {a b : Nat} (ha : a < 2147483648) (hb : b < 2147483648) (h : nI a = nI b) : a = b := by
  have := congrArg Int32.toInt h
  rw [nT ha, nT hb] at this
  omega
section SM
variable {fi : Nat → Int32} {fl : Nat → Int64} {ai : Nat → Nat → Int32} {al : Nat → Nat → Int64} {p : Nat} {v1 v2 v3 v4 : Int32}
theorem SS_part_s {K : Int32 → (Nat → Nat → Int32) → Prop} (hp : fi 7 = nI p) (h6 : p ≤ 6) (hy : ∀ i, i < p → isR 0 1000 v2 → isR (-100000) 100000 v3 → v1 = nI i → K 1 (va_up (va_up ai 20 (upd (ai 20) i v2)) 21 (upd (ai 21) i v3))) (hno : ¬ (isP p v1 ∧ isR 0 1000 v2 ∧ isR (-100000) 100000 v3) → K 0 ai) : SS_part_w fi fl ai al v1 v2 v3 K := by
  unfold SS_part_w
  refine Gi_hasPart_s hp h6 (br_b (fun h1 => ?_) (fun h1 => hno (fun q => h1 q.1)))
  refine SS_within_r (a := 0) (b := 1000) rfl rfl (br_b (fun h2 => ?_) (fun h2 => hno (fun q => h2 q.2.1)))
  refine SS_within_r (a := -100000) (b := 100000) rfl rfl (br_b (fun h3 => ?_) (fun h3 => hno (fun q => h3 q.2.2)))
  obtain ⟨i, hi, hi2, rfl⟩ := isP_of h1
  simp only [zw_nm, nC hi2]
  exact ⟨vp_in_nI (by omega) (by omega), vp_in_nI (by omega) (by omega), hy i hi h2 h3 rfl⟩
theorem Mo_part_s {K : Int32 → (Nat → Nat → Int32) → Prop} (hp : fi 0 = nI p) (h6 : p ≤ 6) (hy : ∀ i, i < p → isR 0 1000 v2 → isR (-100000) 100000 v3 → v1 = nI i → K 1 (va_up (va_up ai 1 (upd (ai 1) i v2)) 2 (upd (ai 2) i v3))) (hno : ¬ (isP p v1 ∧ isR 0 1000 v2 ∧ isR (-100000) 100000 v3) → K 0 ai) : Mo_part_w fi fl ai al v1 v2 v3 K := by
  unfold Mo_part_w
  refine Mo_isPart_s hp h6 (br_b (fun h1 => ?_) (fun h1 => hno (fun q => h1 q.1)))
  refine Mo_in_r (a := 0) (b := 1000) rfl rfl (br_b (fun h2 => ?_) (fun h2 => hno (fun q => h2 q.2.1)))
  refine Mo_in_r (a := -100000) (b := 100000) rfl rfl (br_b (fun h3 => ?_) (fun h3 => hno (fun q => h3 q.2.2)))
  obtain ⟨i, hi, hi2, rfl⟩ := isP_of h1
  simp only [zw_nm, nC hi2]
  exact ⟨vp_in_nI (by omega) (by omega), vp_in_nI (by omega) (by omega), hy i hi h2 h3 rfl⟩
end SM
theorem s_part : st_part Rl := by
  intro fi fl ai al gi gl bi bl v1 v2 v3 hR
  obtain ⟨p, nc, ns, na, nd, nr, no, hn, hC, hg, hk, hd, ha, hw, hf, he, ho, hr, hq⟩ := Rl.e hR
  obtain ⟨n1, n2, -⟩ := id hn
  obtain ⟨c7, g0, -⟩ := id hC
  refine SS_part_s c7 n2 (fun i hi h2 h3 e => ?_) (fun h => ?_)
  · subst e
    refine Mo_part_s g0 n2 (fun i' hi' _ _ e => ?_) (fun h => absurd ⟨isP_nI hi (by omega), h2, h3⟩ h)
    obtain rfl : i = i' := nI_inj (by omega) (by omega) e
    refine ⟨rfl, Rl.i p nc ns na nd nr no ⟨hn, hC, ?_, hk, hd, ha, hw, hf, he, ho, hr, hq⟩⟩
    obtain ⟨q1, q2, q3, q4, q5⟩ := hg
    refine ⟨fun j hj => ?_, fun j hj => ?_, fun s i j hs hi hj => ?_, fun k j hk hj => ?_, fun k j hk hj => ?_⟩
    · show upd (bi 1) i v2 j = upd (ai 20) i v2 j ∧ isR 0 1000 (upd (ai 20) i v2 j)
      by_cases e : j = i
      · subst e; rw [pk_us, pk_us]; exact ⟨rfl, h2⟩
      · rw [pk_un e, pk_un e]; exact q1 j hj
    · show upd (bi 2) i v3 j = upd (ai 21) i v3 j
      by_cases e : j = i
      · subst e; rw [pk_us, pk_us]
      · rw [pk_un e, pk_un e]; exact q2 j hj
    · rw [va_n _ _ (show 23 + s ≠ 21 by omega), va_n _ _ (show 23 + s ≠ 20 by omega)]; exact q3 s i j hs hi hj
    · rw [va_n _ _ (show 32 + k ≠ 21 by omega), va_n _ _ (show 32 + k ≠ 20 by omega)]; exact q4 k j hk hj
    · rw [va_n _ _ (show 36 + k ≠ 21 by omega), va_n _ _ (show 36 + k ≠ 20 by omega)]; exact q5 k j hk hj
  · exact Mo_part_s g0 n2 (fun i hi h2 h3 e => absurd ⟨by rw [e]; exact isP_nI hi (by omega), h2, h3⟩ h) (fun _ => ⟨rfl, hR⟩)
theorem RlN.givens {p nc ns na nd nr no : Nat} {fi gi : Nat → Int32} {ai bi ai' bi' : Nat → Nat → Int32} {al bl : Nat → Nat → Int64} (h : RlN p nc ns na nd nr no fi ai al gi bi bl) (hA : ∀ q, q < 20 ∨ 39 ≤ q → ai' q = ai q) (hB : ∀ q, 6 ≤ q → bi' q = bi q) (hg : Rg ai' bi') : RlN p nc ns na nd nr no fi ai' al gi bi' bl := by
  obtain ⟨hn, hC, -, hk, hd, ha, hw, hf, he, ho, hr, hq⟩ := h
  have A : ∀ q, q < 20 → ai' q = ai q := fun q h => hA q (Or.inl h)
  exact ⟨hn, hC, hg, hk.c (A 2 (by omega)) (A 3 (by omega)) (hB 6 (by omega)) (hB 7 (by omega)), hd.c (A 5 (by omega)) (hB 9 (by omega)), ha.c (A 6 (by omega)) (A 7 (by omega)) (A 8 (by omega)) (A 9 (by omega)) (hB 10 (by omega)) (hB 11 (by omega)) (hB 12 (by omega)) (hB 13 (by omega)), hw.c (A 6 (by omega)) (A 7 (by omega)) (A 9 (by omega)) (A 10 (by omega)) (A 11 (by omega)), hf.c (hA 39 (by omega)) (A 10 (by omega)) (hB 8 (by omega)), he.c rfl (A 5 (by omega)), ho, hr.c (A 13 (by omega)) (A 14 (by omega)) (A 15 (by omega)) (A 16 (by omega)) (hB 15 (by omega)) (hB 16 (by omega)) (hB 17 (by omega)) (hB 18 (by omega)), hq.c (hA 60 (by omega)) (hB 19 (by omega))⟩
theorem nI_mul (a b : Nat) : nI a * nI b = nI (a * b) := pk_mul a b
theorem ix6 (i j : Nat) : nI i * (6 : Int32) + nI j = nI (6 * i + j) := by
  rw [show (6 : Int32) = nI 6 from rfl, pk_mul, nI_add, Nat.mul_comm]
theorem xi6 (i j : Nat) : (6 : Int32) * nI i + nI j = nI (6 * i + j) := by
  rw [show (6 : Int32) = nI 6 from rfl, pk_mul, nI_add]
theorem xi36 (s i j : Nat) : (36 : Int32) * nI s + (6 : Int32) * nI i + nI j = nI (36 * s + 6 * i + j) := by
  rw [show (6 : Int32) = nI 6 from rfl, show (36 : Int32) = nI 36 from rfl, pk_mul, pk_mul, nI_add, nI_add]
theorem xi3 (i j : Nat) : (3 : Int32) * nI i + nI j = nI (3 * i + j) := by
  rw [show (3 : Int32) = nI 3 from rfl, pk_mul, nI_add]
section SM2
variable {fi : Nat → Int32} {fl : Nat → Int64} {ai : Nat → Nat → Int32} {al : Nat → Nat → Int64} {p : Nat} {v1 v2 v3 v4 : Int32} {K : Int32 → (Nat → Nat → Int32) → Prop}
theorem SS_flex_s (hp : fi 7 = nI p) (h6 : p ≤ 6) (hy : ∀ s i j, s < 8 → i < p → j < p → isR (-1000) 1000 v4 → v1 = nI s → v2 = nI i → v3 = nI j → K 1 (va_up ai (23 + s) (upd (ai (23 + s)) (6 * i + j) v4))) (hno : ¬ (isP 8 v1 ∧ isP p v2 ∧ isP p v3 ∧ isR (-1000) 1000 v4) → K 0 ai) : SS_flex_w fi fl ai al v1 v2 v3 v4 K := by
  unfold SS_flex_w
  refine SS_within_r (a := 0) (b := 7) rfl rfl (br_b (fun h1 => ?_) (fun h1 => hno (fun q => h1 (by have := q.1; unfold isP at this; unfold isR; omega))))
  refine Gi_hasPart_s hp h6 (br_b (fun h2 => ?_) (fun h1 => hno (fun q => h1 q.2.1)))
  refine Gi_hasPart_s hp h6 (br_b (fun h3 => ?_) (fun h1 => hno (fun q => h1 q.2.2.1)))
  refine SS_isFactor_s (br_b (fun h4 => ?_) (fun h1 => hno (fun q => h1 q.2.2.2)))
  obtain ⟨s, hs, hs2, rfl⟩ := isP_of (p := 8) (x := v1) (by unfold isR at h1; unfold isP; omega)
  obtain ⟨i, hi, hi2, rfl⟩ := isP_of h2
  obtain ⟨j, hj, hj2, rfl⟩ := isP_of h3
  simp only [zw_nm, ix6]
  refine ⟨vp_in_nI (by omega) (by omega), vp_in_nI (by omega) (by omega), ?_⟩
  rw [nC hs2, nC (by omega)]
  exact hy s i j hs hi hj h4 rfl rfl rfl
theorem Mo_flex_s (hp : fi 0 = nI p) (h6 : p ≤ 6) (hy : ∀ s i j, s < 8 → i < p → j < p → isR (-1000) 1000 v4 → v1 = nI s → v2 = nI i → v3 = nI j → K 1 (va_up ai 3 (upd (ai 3) (36 * s + 6 * i + j) v4))) (hno : ¬ (isP 8 v1 ∧ isP p v2 ∧ isP p v3 ∧ isR (-1000) 1000 v4) → K 0 ai) : Mo_flex_w fi fl ai al v1 v2 v3 v4 K := by
  unfold Mo_flex_w
  refine Mo_in_r (a := 0) (b := 7) rfl rfl (br_b (fun h1 => ?_) (fun h1 => hno (fun q => h1 (by have := q.1; unfold isP at this; unfold isR; omega))))
  refine Mo_isPart_s hp h6 (br_b (fun h2 => ?_) (fun h1 => hno (fun q => h1 q.2.1)))
  refine Mo_isPart_s hp h6 (br_b (fun h3 => ?_) (fun h1 => hno (fun q => h1 q.2.2.1)))
  refine Mo_in_r (a := -1000) (b := 1000) rfl rfl (br_b (fun h4 => ?_) (fun h1 => hno (fun q => h1 q.2.2.2)))
  obtain ⟨s, hs, hs2, rfl⟩ := isP_of (p := 8) (x := v1) (by unfold isR at h1; unfold isP; omega)
  obtain ⟨i, hi, hi2, rfl⟩ := isP_of h2
  obtain ⟨j, hj, hj2, rfl⟩ := isP_of h3
  simp only [zw_nm, xi36]
  refine ⟨vp_in_nI (by omega) (by omega), ?_⟩
  rw [nC (by omega)]
  exact hy s i j hs hi hj h4 rfl rfl rfl
theorem SS_share_s (hp : fi 7 = nI p) (h6 : p ≤ 6) (hy : ∀ k j, k < 3 → j < p → isR (-1000) 1000 v3 → v1 = nI k → v2 = nI j → K 1 (va_up ai (32 + k) (upd (ai (32 + k)) j v3))) (hno : ¬ (isP 3 v1 ∧ isP p v2 ∧ isR (-1000) 1000 v3) → K 0 ai) : SS_share_w fi fl ai al v1 v2 v3 K := by
  unfold SS_share_w
  refine SS_isSupport_s (br_b (fun h1 => ?_) (fun h1 => hno (fun q => h1 q.1)))
  refine Gi_hasPart_s hp h6 (br_b (fun h2 => ?_) (fun h1 => hno (fun q => h1 q.2.1)))
  refine SS_isFactor_s (br_b (fun h3 => ?_) (fun h1 => hno (fun q => h1 q.2.2)))
  obtain ⟨s, hs, hs2, rfl⟩ := isP_of h1
  obtain ⟨j, hj, hj2, rfl⟩ := isP_of h2
  simp only [zw_nm, nC hs2, nC hj2]
  exact ⟨vp_in_nI (by omega) (by omega), vp_in_nI (by omega) (by omega), hy s j hs hj h3 rfl rfl⟩
theorem SS_release_s (hp : fi 7 = nI p) (h6 : p ≤ 6) (hy : ∀ k j, k < 3 → j < p → isR (-1000) 1000 v3 → v1 = nI k → v2 = nI j → K 1 (va_up ai (36 + k) (upd (ai (36 + k)) j v3))) (hno : ¬ (isP 3 v1 ∧ isP p v2 ∧ isR (-1000) 1000 v3) → K 0 ai) : SS_release_w fi fl ai al v1 v2 v3 K := by
  unfold SS_release_w
  refine SS_isSupport_s (br_b (fun h1 => ?_) (fun h1 => hno (fun q => h1 q.1)))
  refine Gi_hasPart_s hp h6 (br_b (fun h2 => ?_) (fun h1 => hno (fun q => h1 q.2.1)))
  refine SS_isFactor_s (br_b (fun h3 => ?_) (fun h1 => hno (fun q => h1 q.2.2)))
  obtain ⟨s, hs, hs2, rfl⟩ := isP_of h1
  obtain ⟨j, hj, hj2, rfl⟩ := isP_of h2
  simp only [zw_nm, nC hs2, nC hj2]
  exact ⟨vp_in_nI (by omega) (by omega), vp_in_nI (by omega) (by omega), hy s j hs hj h3 rfl rfl⟩
theorem isR3 {x : Int32} : isR 0 2 x ↔ isP 3 x := by unfold isR isP; omega
theorem Mo_share_s (hp : fi 0 = nI p) (h6 : p ≤ 6) (hy : ∀ k j, k < 3 → j < p → isR (-1000) 1000 v3 → v1 = nI k → v2 = nI j → K 1 (va_up ai 4 (upd (ai 4) (6 * k + j) v3))) (hno : ¬ (isP 3 v1 ∧ isP p v2 ∧ isR (-1000) 1000 v3) → K 0 ai) : Mo_share_w fi fl ai al v1 v2 v3 K := by
  unfold Mo_share_w
  refine Mo_in_r (a := 0) (b := 2) rfl rfl (br_b (fun h1 => ?_) (fun h1 => hno (fun q => h1 (isR3.mpr q.1))))
  refine Mo_isPart_s hp h6 (br_b (fun h2 => ?_) (fun h1 => hno (fun q => h1 q.2.1)))
  refine Mo_in_r (a := -1000) (b := 1000) rfl rfl (br_b (fun h3 => ?_) (fun h1 => hno (fun q => h1 q.2.2)))
  obtain ⟨s, hs, hs2, rfl⟩ := isP_of (isR3.mp h1)
  obtain ⟨j, hj, hj2, rfl⟩ := isP_of h2
  simp only [zw_nm, xi6]
  refine ⟨vp_in_nI (by omega) (by omega), ?_⟩
  rw [nC (by omega)]
  exact hy s j hs hj h3 rfl rfl
theorem Mo_release_s (hp : fi 0 = nI p) (h6 : p ≤ 6) (hy : ∀ k j, k < 3 → j < p → isR (-1000) 1000 v3 → v1 = nI k → v2 = nI j → K 1 (va_up ai 5 (upd (ai 5) (6 * k + j) v3))) (hno : ¬ (isP 3 v1 ∧ isP p v2 ∧ isR (-1000) 1000 v3) → K 0 ai) : Mo_release_w fi fl ai al v1 v2 v3 K := by
  unfold Mo_release_w
  refine Mo_in_r (a := 0) (b := 2) rfl rfl (br_b (fun h1 => ?_) (fun h1 => hno (fun q => h1 (isR3.mpr q.1))))
  refine Mo_isPart_s hp h6 (br_b (fun h2 => ?_) (fun h1 => hno (fun q => h1 q.2.1)))
  refine Mo_in_r (a := -1000) (b := 1000) rfl rfl (br_b (fun h3 => ?_) (fun h1 => hno (fun q => h1 q.2.2)))
  obtain ⟨s, hs, hs2, rfl⟩ := isP_of (isR3.mp h1)
  obtain ⟨j, hj, hj2, rfl⟩ := isP_of h2
  simp only [zw_nm, xi6]
  refine ⟨vp_in_nI (by omega) (by omega), ?_⟩
  rw [nC (by omega)]
  exact hy s j hs hj h3 rfl rfl
end SM2
theorem s_flex : st_flex Rl := by
  intro fi fl ai al gi gl bi bl v1 v2 v3 v4 hR
  obtain ⟨p, nc, ns, na, nd, nr, no, hN⟩ := Rl.e hR
  obtain ⟨⟨n1, n2, -⟩, ⟨c7, g0, -⟩, hg, -⟩ := id hN
  refine SS_flex_s c7 n2 (fun s i j hs hi hj h4 e1 e2 e3 => ?_) (fun h => ?_)
  · subst e1 e2 e3
    refine Mo_flex_s g0 n2 (fun s' i' j' hs' hi' hj' _ e1 e2 e3 => ?_) (fun h => absurd ⟨isP_nI hs (by omega), isP_nI hi (by omega), isP_nI hj (by omega), h4⟩ h)
    obtain rfl : s = s' := nI_inj (by omega) (by omega) e1
    obtain rfl : i = i' := nI_inj (by omega) (by omega) e2
    obtain rfl : j = j' := nI_inj (by omega) (by omega) e3
    refine ⟨rfl, Rl.i p nc ns na nd nr no (RlN.givens hN (fun q hq => va_n _ _ (by omega)) (fun q hq => va_n _ _ (by omega)) ?_)⟩
    obtain ⟨q1, q2, q3, q4, q5⟩ := hg
    refine ⟨fun j hj => ?_, fun j hj => ?_, fun s' i' j' hs' hi' hj' => ?_, fun k j hk hj => ?_, fun k j hk hj => ?_⟩
    · rw [va_n _ _ (show 1 ≠ 3 by omega), va_n _ _ (show 20 ≠ 23 + s by omega)]; exact q1 j hj
    · rw [va_n _ _ (show 2 ≠ 3 by omega), va_n _ _ (show 21 ≠ 23 + s by omega)]; exact q2 j hj
    · rw [va_s]
      by_cases e : s' = s
      · subst e
        rw [va_s]
        by_cases e2 : 6 * i' + j' = 6 * i + j
        · rw [e2, pk_us, show 36 * s' + 6 * i' + j' = 36 * s' + 6 * i + j by omega, pk_us]
        · rw [pk_un e2, pk_un (show _ ≠ _ by omega)]; exact q3 s' i' j' hs' hi' hj'
      · rw [va_n _ _ (show 23 + s' ≠ 23 + s by omega), pk_un (show _ ≠ _ by omega)]; exact q3 s' i' j' hs' hi' hj'
    · rw [va_n _ _ (show 4 ≠ 3 by omega), va_n _ _ (show 32 + k ≠ 23 + s by omega)]; exact q4 k j hk hj
    · rw [va_n _ _ (show 5 ≠ 3 by omega), va_n _ _ (show 36 + k ≠ 23 + s by omega)]; exact q5 k j hk hj
  · exact Mo_flex_s g0 n2 (fun s i j hs hi hj h4 e1 e2 e3 => absurd ⟨by rw [e1]; exact isP_nI hs (by omega), by rw [e2]; exact isP_nI hi (by omega), by rw [e3]; exact isP_nI hj (by omega), h4⟩ h) (fun _ => ⟨rfl, hR⟩)
theorem s_share : st_share Rl := by
  intro fi fl ai al gi gl bi bl v1 v2 v3 hR
  obtain ⟨p, nc, ns, na, nd, nr, no, hN⟩ := Rl.e hR
  obtain ⟨⟨n1, n2, -⟩, ⟨c7, g0, -⟩, hg, -⟩ := id hN
  refine SS_share_s c7 n2 (fun k j hk hj h3 e1 e2 => ?_) (fun h => ?_)
  · subst e1 e2
    refine Mo_share_s g0 n2 (fun k' j' hk' hj' _ e1 e2 => ?_) (fun h => absurd ⟨isP_nI hk (by omega), isP_nI hj (by omega), h3⟩ h)
    obtain rfl : k = k' := nI_inj (by omega) (by omega) e1
    obtain rfl : j = j' := nI_inj (by omega) (by omega) e2
    refine ⟨rfl, Rl.i p nc ns na nd nr no (RlN.givens hN (fun q hq => va_n _ _ (by omega)) (fun q hq => va_n _ _ (by omega)) ?_)⟩
    obtain ⟨q1, q2, q3, q4, q5⟩ := hg
    refine ⟨fun j hj => ?_, fun j hj => ?_, fun s' i' j' hs' hi' hj' => ?_, fun k' j' hk' hj' => ?_, fun k2 j2 hk2 hj2 => ?_⟩
    · rw [va_n _ _ (show 1 ≠ 4 by omega), va_n _ _ (show 20 ≠ 32 + k by omega)]; exact q1 j hj
    · rw [va_n _ _ (show 2 ≠ 4 by omega), va_n _ _ (show 21 ≠ 32 + k by omega)]; exact q2 j hj
    · rw [va_n _ _ (show 3 ≠ 4 by omega), va_n _ _ (show 23 + s' ≠ 32 + k by omega)]; exact q3 s' i' j' hs' hi' hj'
    · rw [va_s]
      by_cases e : k' = k
      · subst e
        rw [va_s]
        by_cases e2 : j' = j
        · subst e2; rw [pk_us, pk_us]; exact ⟨rfl, h3⟩
        · rw [pk_un e2, pk_un (show _ ≠ _ by omega)]; exact q4 k' j' hk' hj'
      · rw [va_n _ _ (show 32 + k' ≠ 32 + k by omega), pk_un (show _ ≠ _ by omega)]; exact q4 k' j' hk' hj'
    · rw [va_n _ _ (show 5 ≠ 4 by omega), va_n _ _ (show 36 + k2 ≠ 32 + k by omega)]; exact q5 k2 j2 hk2 hj2
  · exact Mo_share_s g0 n2 (fun k j hk hj h3 e1 e2 => absurd ⟨by rw [e1]; exact isP_nI hk (by omega), by rw [e2]; exact isP_nI hj (by omega), h3⟩ h) (fun _ => ⟨rfl, hR⟩)
theorem s_release : st_release Rl := by
  intro fi fl ai al gi gl bi bl v1 v2 v3 hR
  obtain ⟨p, nc, ns, na, nd, nr, no, hN⟩ := Rl.e hR
  obtain ⟨⟨n1, n2, -⟩, ⟨c7, g0, -⟩, hg, -⟩ := id hN
  refine SS_release_s c7 n2 (fun k j hk hj h3 e1 e2 => ?_) (fun h => ?_)
  · subst e1 e2
    refine Mo_release_s g0 n2 (fun k' j' hk' hj' _ e1 e2 => ?_) (fun h => absurd ⟨isP_nI hk (by omega), isP_nI hj (by omega), h3⟩ h)
    obtain rfl : k = k' := nI_inj (by omega) (by omega) e1
    obtain rfl : j = j' := nI_inj (by omega) (by omega) e2
    refine ⟨rfl, Rl.i p nc ns na nd nr no (RlN.givens hN (fun q hq => va_n _ _ (by omega)) (fun q hq => va_n _ _ (by omega)) ?_)⟩
    obtain ⟨q1, q2, q3, q4, q5⟩ := hg
    refine ⟨fun j hj => ?_, fun j hj => ?_, fun s' i' j' hs' hi' hj' => ?_, fun k2 j2 hk2 hj2 => ?_, fun k' j' hk' hj' => ?_⟩
    · rw [va_n _ _ (show 1 ≠ 5 by omega), va_n _ _ (show 20 ≠ 36 + k by omega)]; exact q1 j hj
    · rw [va_n _ _ (show 2 ≠ 5 by omega), va_n _ _ (show 21 ≠ 36 + k by omega)]; exact q2 j hj
    · rw [va_n _ _ (show 3 ≠ 5 by omega), va_n _ _ (show 23 + s' ≠ 36 + k by omega)]; exact q3 s' i' j' hs' hi' hj'
    · rw [va_n _ _ (show 4 ≠ 5 by omega), va_n _ _ (show 32 + k2 ≠ 36 + k by omega)]; exact q4 k2 j2 hk2 hj2
    · rw [va_s]
      by_cases e : k' = k
      · subst e
        rw [va_s]
        by_cases e2 : j' = j
        · subst e2; rw [pk_us, pk_us]
        · rw [pk_un e2, pk_un (show _ ≠ _ by omega)]; exact q5 k' j' hk' hj'
      · rw [va_n _ _ (show 36 + k' ≠ 36 + k by omega), pk_un (show _ ≠ _ by omega)]; exact q5 k' j' hk' hj'
  · exact Mo_release_s g0 n2 (fun k j hk hj h3 e1 e2 => absurd ⟨by rw [e1]; exact isP_nI hk (by omega), by rw [e2]; exact isP_nI hj (by omega), h3⟩ h) (fun _ => ⟨rfl, hR⟩)
