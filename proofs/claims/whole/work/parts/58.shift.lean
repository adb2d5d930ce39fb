/-! PURE: shift -/
theorem va_self {α : Type} (f : Nat → α) (k : Nat) : va_up f k (f k) = f := by
  funext j
  unfold va_up
  by_cases h : j = k
  · rw [if_pos h, h]
  · rw [if_neg h]
theorem l_addI (x y : Int32) : (x.toInt64 + y.toInt64).toInt = x.toInt + y.toInt := by
  have hx := i_rng x
  have hy := i_rng y
  rw [Int64.toInt_add, i_l, i_l, Int.bmod_eq_of_le (by omega) (by omega)]
/-- the days from stage s on moved -/
def shD (d : Nat → Int32) (s n : Nat) (v : Int32) : Nat → Int32 := fun t => if s ≤ t ∧ t < n then d t + v else d t
theorem shD_0 (d : Nat → Int32) (s : Nat) (v : Int32) : shD d s s v = d := by
  funext t
  unfold shD
  rw [if_neg (by omega)]
theorem shD_s (d : Nat → Int32) {s k : Nat} (v : Int32) (h : s ≤ k) : upd (shD d s k v) k (shD d s k v k + v) = shD d s (k + 1) v := by
  funext t
  by_cases e : t = k
  · subst e
    rw [pk_us]
    unfold shD
    rw [if_neg (by omega), if_pos (by omega)]
  · rw [pk_un e]
    unfold shD
    by_cases q : s ≤ t ∧ t < k
    · rw [if_pos q, if_pos (by omega)]
    · rw [if_neg q, if_neg (by omega)]
theorem shD_in {d : Nat → Int32} {s n t : Nat} {v : Int32} (h : s ≤ t) (h2 : t < n) : shD d s n v t = d t + v := by unfold shD; rw [if_pos ⟨h, h2⟩]
theorem shD_out {d : Nat → Int32} {s n t : Nat} {v : Int32} (h : t < s) : shD d s n v t = d t := by unfold shD; rw [if_neg (by omega)]
section SH
variable {fi : Nat → Int32} {fl : Nat → Int64} {ai : Nat → Nat → Int32} {al : Nat → Nat → Int64} {ns s : Nat} {v1 v2 : Int32}
theorem Pl_move_s {K : (Nat → Int32) → (Nat → Nat → Int32) → Prop} (h2 : fi 2 = nI ns) (h12 : ns ≤ 12) (hs : s < ns) (h : K (if shD (ai 5) s ns v2 (ns - 1) ≤ fi 5 then fi else va_up fi 5 (-1)) (va_up ai 5 (shD (ai 5) s ns v2))) : Pl_move_w fi fl ai al (nI s) v2 K := by
  unfold Pl_move_w
  rw [h2]
  refine lp2_c ns (by omega) (fun k A => s ≤ k ∧ A = va_up ai 5 (shD (ai 5) s k v2)) (fun L k A hk hI hL => ?_) s ai (by omega) ⟨Nat.le_refl _, by rw [shD_0, va_self]⟩
  obtain ⟨hsk, rfl⟩ := hI
  refine br_n (by omega) (by omega) (fun e => ?_) (fun e => ⟨vp_in_nI (by omega) (by omega), vp_in_nI (by omega) (by omega), ?_⟩)
  · obtain rfl : k = ns := by omega
    unfold Pl_forgetPassedEnd_w
    refine Pl_lastDay_p (ns := k) h2 h12 (by omega) ?_
    rw [va_s]
    refine br_i Iff.rfl (fun q => ?_) (fun q => ?_)
    · rw [if_pos q] at h; exact h
    · rw [if_neg q] at h; exact h
  · simp only [zw_nm]
    rw [nC (by omega), va_s, bx_uu, shD_s _ _ hsk, nI_p1]
    exact hL _ e ⟨by omega, rfl⟩
/-- a shift that may be -/
def shOK (d : Nat → Int32) (ns s : Nat) (v : Int32) : Prop := 0 ≤ (d s).toInt + v.toInt ∧ (d (ns - 1)).toInt + v.toInt ≤ 20000 ∧ (s = 0 ∨ (d (s - 1)).toInt < (d s).toInt + v.toInt)
theorem SS_shift_s {K : Int32 → (Nat → Int32) → (Nat → Nat → Int32) → Prop} (h2 : fi 2 = nI ns) (h12 : ns ≤ 12) (hd : ∀ t, t < ns → isR 0 20000 (ai 5 t)) (hy : ∀ s, s < ns → v1 = nI s → shOK (ai 5) ns s v2 → K 1 (if shD (ai 5) s ns v2 (ns - 1) ≤ fi 5 then fi else va_up fi 5 (-1)) (va_up ai 5 (shD (ai 5) s ns v2))) (hno : (∀ s, s < ns → v1 = nI s → ¬ shOK (ai 5) ns s v2) → K 0 fi ai) : SS_shift_w fi fl ai al v1 v2 K := by
  unfold SS_shift_w Pl_canMove_w
  refine Pl_hasStage_s h2 h12 (br_b (fun e1 => ?_) (fun e1 => if0 (hno (fun s hs e => absurd (by rw [e]; exact isP_nI hs (by omega)) e1))))
  obtain ⟨s, hs, hs2, rfl⟩ := isP_of e1
  have no : ¬ shOK (ai 5) ns s v2 → K 0 fi ai := fun q => hno (fun s' hs' e => by obtain rfl : s = s' := nI_inj (by omega) (by omega) e; exact q)
  have d1 := hd s hs
  have d2 := hd (ns - 1) (by omega)
  refine SS_within_r (a := -20000) (b := 20000) rfl rfl (br_b (fun e2 => ?_) (fun e2 => if0 (no (fun q => e2 (by unfold shOK at q; unfold isR at d1 d2 ⊢; omega)))))
  rw [nC hs2]
  refine ⟨vp_in_nI (by omega) (by omega), ?_⟩
  unfold zw_nm
  have a1 : (ai 5 s + v2).toInt = (ai 5 s).toInt + v2.toInt := i_add (by unfold isR at d1 e2; omega)
  refine jn1_o (fun y => y.toInt = if s = 0 then 0 else (ai 5 (s - 1)).toInt + 1) (fun y hY => ?_) (fun J hJ => ?_)
  · refine br_i i_lt (fun e3 => if0 (no (fun q => ?_))) (fun e3 => ?_)
    · rw [a1, hY] at e3
      unfold shOK at q
      by_cases z : s = 0
      · rw [if_pos z] at e3; omega
      · rw [if_neg z] at e3; omega
    · refine Pl_lastDay_p h2 h12 (by omega) ?_
      have a2 : (ai 5 (ns - 1) + v2).toInt = (ai 5 (ns - 1)).toInt + v2.toInt := i_add (by unfold isR at d2 e2; omega)
      refine br_i i_lt (fun e4 => if0 (no (fun q => ?_))) (fun e4 => ?_)
      · rw [a2, show (20000 : Int32).toInt = 20000 from rfl] at e4
        unfold shOK at q; omega
      · rw [a2, show (20000 : Int32).toInt = 20000 from rfl] at e4
        rw [a1, hY] at e3
        refine if1 (Pl_move_s h2 h12 hs (hy s hs rfl ⟨?_, by omega, ?_⟩))
        · by_cases z : s = 0
          · rw [if_pos z] at e3; omega
          · rw [if_neg z] at e3; have := (hd (s - 1) (by omega)).1; omega
        · by_cases z : s = 0
          · exact Or.inl z
          · rw [if_neg z] at e3; exact Or.inr (by omega)
  · refine br_i (eq_nI (c := 0) (m := 0) rfl (by omega) (by omega)) (fun e => hJ 0 (by rw [if_pos e]; rfl)) (fun e => ?_)
    rw [nI_s1 (by omega), nC (by omega)]
    refine ⟨vp_in_nI (by omega) (by omega), hJ _ ?_⟩
    have := hd (s - 1) (by omega)
    rw [if_neg e, i_add (by rw [show (1 : Int32).toInt = 1 from rfl]; unfold isR at this; omega)]
    rfl
theorem Mo_shift_s {K : Int32 → (Nat → Int32) → (Nat → Nat → Int32) → Prop} (h2 : fi 2 = nI ns) (h12 : ns ≤ 12) (hy : ∀ s, s < ns → v1 = nI s → shOK (ai 9) ns s v2 → K 1 (va_up fi 4 (if shD (ai 9) s ns v2 (ns - 1) ≤ fi 4 then fi 4 else -1)) (va_up ai 9 (shD (ai 9) s ns v2))) (hno : (∀ s, s < ns → v1 = nI s → ¬ shOK (ai 9) ns s v2) → K 0 fi ai) : Mo_shift_w fi fl ai al v1 v2 K := by
  unfold Mo_shift_w
  refine Mo_isStage_s h2 h12 (br_b (fun e1 => ?_) (fun e1 => hno (fun s hs e => absurd (by rw [e]; exact isP_nI hs (by omega)) e1)))
  obtain ⟨s, hs, hs2, rfl⟩ := isP_of e1
  have no : ¬ shOK (ai 9) ns s v2 → K 0 fi ai := fun q => hno (fun s' hs' e => by obtain rfl : s = s' := nI_inj (by omega) (by omega) e; exact q)
  rw [nC hs2]
  refine ⟨vp_in_nI (by omega) (by omega), ?_⟩
  unfold zw_nm
  refine Mo_lastDay_p h2 h12 (by omega) ?_
  refine br_i l_lt (fun e => no (fun q => ?_)) (fun e3 => br_i l_lt (fun e => no (fun q => ?_)) (fun e4 => ?_))
  · rw [l_addI, show (0 : Int64).toInt = 0 from rfl] at e; unfold shOK at q; omega
  · rw [l_addI, show (20000 : Int64).toInt = 20000 from rfl] at e; unfold shOK at q; omega
  · rw [l_addI, show (0 : Int64).toInt = 0 from rfl] at e3
    rw [l_addI, show (20000 : Int64).toInt = 20000 from rfl] at e4
    refine jn0_o (s = 0 ∨ (ai 9 (s - 1)).toInt < (ai 9 s).toInt + v2.toInt) (fun e5 => ?_) (fun J hJ => ?_)
    · have h := hy s hs rfl ⟨by omega, by omega, e5⟩
      rw [h2]
      refine lp2_c ns (by omega) (fun k A => s ≤ k ∧ A = va_up ai 9 (shD (ai 9) s k v2)) (fun L k A hk hI hL => ?_) s ai (by omega) ⟨Nat.le_refl _, by rw [shD_0, va_self]⟩
      obtain ⟨hsk, rfl⟩ := hI
      refine br_n (by omega) (by omega) (fun e => ?_) (fun e => ⟨vp_in_nI (by omega) (by omega), vp_in_nI (by omega) (by omega), ?_⟩)
      · obtain rfl : k = ns := by omega
        unfold Mo_lookAtEnd_w
        refine jn0_o (¬ shD (ai 9) s k v2 (k - 1) ≤ fi 4) (fun h6 => ?_) (fun J hJ => ?_)
        · rw [if_neg h6] at h; exact h
        · rw [h2]
          refine br_i (eq_nI (c := 0) (m := 0) rfl (by omega) (by omega)) (fun e => absurd e (by omega)) (fun e => Mo_lastDay_p h2 h12 (by omega) ?_)
          rw [va_s]
          refine br_i Iff.rfl (fun h6 => ?_) (fun h6 => hJ h6)
          rw [if_pos h6] at h
          exact h
      · rw [nC (by omega), va_s, bx_uu, shD_s _ _ hsk, nI_p1]
        exact hL _ e ⟨by omega, rfl⟩
    · refine br_i (nI_le' (c := 0) (m := 0) rfl (by omega) (by omega)) (fun e => hJ (Or.inl (by omega))) (fun e => ?_)
      rw [nI_s1 (by omega), nC (by omega)]
      refine ⟨vp_in_nI (by omega) (by omega), br_i l_lt (fun e5 => hJ (Or.inr ?_)) (fun e5 => no (fun q => ?_))⟩
      · rw [l_addI, i_l] at e5; exact e5
      · rw [l_addI, i_l] at e5; unfold shOK at q; omega
end SH
theorem Rd.mono {ns : Nat} {ai bi : Nat → Nat → Int32} (h : Rd ns ai bi) {i j : Nat} (hij : i ≤ j) (hj : j < ns) : (ai 5 i).toInt ≤ (ai 5 j).toInt := by
  induction hij with
  | refl => exact Int.le_refl _
  | @step m _ ih =>
    have h1 := h.2 m hj
    have h2 := ih (by omega)
    show (ai 5 i).toInt ≤ (ai 5 (m + 1)).toInt
    omega
theorem s_shift : st_shift Rl := by
  intro fi fl ai al gi gl bi bl v1 v2 hR
  obtain ⟨p, nc, ns, na, nd, nr, no, hN⟩ := Rl.e hR
  obtain ⟨hn, hC, hg, hk, hd, ha, hw, hf, he, ho, hr, hq⟩ := id hN
  obtain ⟨n1, n2, n3, n4, n5, n6, n7, n8⟩ := id hn
  obtain ⟨c7, g0, c1, g1, c2, g2, c3, g3, c4, c6, g6, c11, g7, c5, c0, c0r⟩ := id hC
  have e : ∀ s, s < ns → (shOK (bi 9) ns s v2 ↔ shOK (ai 5) ns s v2) := fun s hs => by
    unfold shOK
    rw [(hd.1 s hs).1, (hd.1 (ns - 1) (by omega)).1]
    by_cases z : s = 0
    · simp [z]
    · rw [(hd.1 (s - 1) (by omega)).1]
  refine SS_shift_s c2 n4 (fun t ht => (hd.1 t ht).2) (fun s hs e1 h1 => ?_) (fun h => ?_)
  · subst e1
    refine Mo_shift_s g2 n4 (fun s' hs' e2 _ => ?_) (fun h => absurd ((e s hs).mpr h1) (h s hs rfl))
    obtain rfl : s = s' := nI_inj (by omega) (by omega) e2
    have hb : ∀ t, t < ns → shD (bi 9) s ns v2 t = shD (ai 5) s ns v2 t := fun t ht => by unfold shD; rw [(hd.1 t ht).1]
    obtain ⟨q1, q2, q3⟩ := h1
    have d0 := (hd.1 s hs).2
    have dl := (hd.1 (ns - 1) (by omega)).2
    have hv : -20000 ≤ v2.toInt ∧ v2.toInt ≤ 20000 := by unfold isR at d0 dl; omega
    have ti : ∀ t, s ≤ t → t < ns → (shD (ai 5) s ns v2 t).toInt = (ai 5 t).toInt + v2.toInt := fun t h1 h2 => by
      rw [shD_in h1 h2, i_add (by have := (hd.1 t h2).2; unfold isR at this; omega)]
    have hd' : Rd ns (va_up ai 5 (shD (ai 5) s ns v2)) (va_up bi 9 (shD (bi 9) s ns v2)) := by
      refine ⟨fun t ht => ⟨hb t ht, ?_⟩, fun t ht => ?_⟩
      · show isR 0 20000 (shD (ai 5) s ns v2 t)
        rcases Nat.lt_or_ge t s with z | z
        · rw [shD_out z]; exact (hd.1 t ht).2
        · have m1 := hd.mono z ht
          have m2 := hd.mono (show t ≤ ns - 1 by omega) (by omega)
          unfold isR
          rw [ti t z ht]; omega
      · show (shD (ai 5) s ns v2 t).toInt < (shD (ai 5) s ns v2 (t + 1)).toInt
        have m := hd.2 t ht
        rcases Nat.lt_or_ge (t + 1) s with z | z
        · rw [shD_out z, shD_out (by omega)]; exact m
        · rw [ti (t + 1) z ht]
          rcases Nat.lt_or_ge t s with z2 | z2
          · rw [shD_out z2]
            rcases q3 with q3 | q3
            · omega
            · rw [show t = s - 1 by omega, show s - 1 + 1 = s by omega]; exact q3
          · rw [ti t z2 (by omega)]; omega
    have hg' : Rg (va_up ai 5 (shD (ai 5) s ns v2)) (va_up bi 9 (shD (bi 9) s ns v2)) := hg.c (fun q h1 h2 => va_n _ _ (by omega)) (fun q h1 h2 => va_n _ _ (by omega))
    rw [← c5, hb (ns - 1) (by omega)]
    by_cases h5 : shD (ai 5) s ns v2 (ns - 1) ≤ fi 5
    · rw [if_pos h5, if_pos h5]
      refine ⟨rfl, Rl.i p nc ns na nd nr no ⟨hn, ⟨c7, g0, c1, g1, c2, g2, c3, g3, c4, c6, g6, c11, g7, rfl, c0, c0r⟩, hg', hk, hd', ha, hw, hf, Or.inr ⟨by omega, i_le.mp h5, ?_⟩, ho, hr, hq⟩⟩
      rcases he with he | he
      · rw [he]; decide
      · exact he.2.2
    · rw [if_neg h5, if_neg h5]
      exact ⟨rfl, Rl.i p nc ns na nd nr no ⟨hn, ⟨c7, g0, c1, g1, c2, g2, c3, g3, c4, c6, g6, c11, g7, rfl, c0, c0r⟩, hg', hk, hd', ha, hw, hf, Or.inl rfl, ho, hr, hq⟩⟩
  · exact Mo_shift_s g2 n4 (fun s hs e1 h1 => absurd ((e s hs).mp h1) (h s hs e1)) (fun _ => ⟨rfl, hR⟩)
