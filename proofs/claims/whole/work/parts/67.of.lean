/-! PURE: of, check, survey -/
theorem l_mid (w r o : Int64) : w - r + o + r = w + o := by
  rw [Int64.sub_eq_add_neg, Int64.add_assoc (w + -r) o r, Int64.add_comm o r, ← Int64.add_assoc (w + -r) r o, Int64.add_assoc w (-r) r, Int64.add_left_neg, Int64.add_zero]
theorem RlN.offs {p nc ns na nd nr no : Nat} {fi gi : Nat → Int32} {ai bi : Nat → Nat → Int32} {al bl al' bl' : Nat → Nat → Int64} (h : RlN p nc ns na nd nr no fi ai al gi bi bl) (ho' : Ro al' bl') : RlN p nc ns na nd nr no fi ai al' gi bi bl' := by
  obtain ⟨hn, hC, hg, hk, hd, ha, hw, hf, he, ho, hr, hq⟩ := h
  exact ⟨hn, hC, hg, hk, hd, ha, hw, hf, he, ho', hr, hq⟩
theorem s_check : st_check Rl := by
  intro fi fl ai al gi gl bi bl hR
  obtain ⟨p, nc, ns, na, nd, nr, no, hN⟩ := Rl.e hR
  obtain ⟨hn, hC, hg, hk, hd, ha, hw, hf, he, ho, hr, hq⟩ := id hN
  obtain ⟨n1, n2, n3, n4, n5, n6, n7, n8⟩ := id hn
  obtain ⟨c7, g0, c1, g1, c2, g2, c3, g3, c4, c6, g6, c11, g7, c5, c0, c0r⟩ := id hC
  unfold SS_check_w
  refine SS_castAll_s hN (fun fi1 ai1 al1 k1 e1 => ?_)
  have fin : Mo_check_w gi gl bi bl (fun r' => (1 : Int32) = r' ∧ Rl (fi1, fl, ai1, al1) (gi, gl, bi, bl)) := ⟨rfl, Rl.i p nc ns na nd nr no (hN.keep k1.kc Km.rf)⟩
  simp only [zw_nm]
  rw [(k1.1 7 (by omega)).trans c7]
  refine lp1_c p (by omega) (fun _ => True) (fun L m hm _ hL => ?_) 0 (by omega) trivial
  refine br_n (by omega) (by omega) (fun q => fin) (fun q => ⟨vp_in_nI (by omega) (by omega), vp_in_nI (by omega) (by omega), ?_⟩)
  rw [nC (by omega), nI_p1]
  refine Pl_placeOf_s ((k1.1 4 (by omega)).trans c4) n6 (fun k hk2 ek _ => ?_) (fun ek => ?_)
  · refine jn0_o True (fun _ => hL q trivial) (fun J hJ => ?_)
    refine br_i (nI_lt' (c := 0) (m := 0) rfl (by omega) (by omega)) (fun z => hJ trivial) (fun _ => SS_heightNow_s (by omega) ?_)
    rw [k1.2.1 10 (by omega)] at ek
    rw [if_pos ?_]
    · exact hJ trivial
    · rw [(e1 m k q hk2 ek).1, (e1 m k q hk2 ek).2, k1.2.1 21 (by omega), k1.2.2 17 (by omega) (by omega) (by omega), l_mid]
  · refine jn0_o True (fun _ => hL q trivial) (fun J hJ => ?_)
    exact br_i (Iff.refl _) (fun _ => hJ trivial) (fun z => absurd (by decide) z)
theorem s_of : st_of Rl := by
  intro fi fl ai al gi gl bi bl v1 v2 hR
  obtain ⟨p, nc, ns, na, nd, nr, no, hN⟩ := Rl.e hR
  obtain ⟨hn, hC, hg, hk, hd, ha, hw, hf, he, ho, hr, hq⟩ := id hN
  obtain ⟨n1, n2, n3, n4, n5, n6, n7, n8⟩ := id hn
  obtain ⟨c7, g0, c1, g1, c2, g2, c3, g3, c4, c6, g6, c11, g7, c5, c0, c0r⟩ := id hC
  unfold SS_of_w
  refine Gi_hasPart_s c7 n2 (br_b (fun e1 => ?_) (fun e1 => ?_))
  · obtain ⟨i, hi, hi2, rfl⟩ := isP_of e1
    refine Pl_placeOf_s c4 n6 (fun k hk2 ek _ => ?_) (fun ek => ?_)
    · rw [if_pos (show (0 : Int32) ≤ nI k by rw [i_le, nT (by omega), show (0 : Int32).toInt = 0 from rfl]; omega)]
      refine SS_castAll_s hN (fun fi1 ai1 al1 k1 e1' => ?_)
      have rel : ∀ gi' bi' bl', Km gi bi bl gi' bi' bl' → Rl (fi1, fl, ai1, al1) (gi', gl, bi', bl') := fun gi' bi' bl' hM => Rl.i p nc ns na nd nr no (hN.keep k1.kc hM)
      obtain ⟨a, a1, a2, a3, a4, a5⟩ := hN.row11 hk2
      have mo : ∀ {K : Int64 → (Nat → Int32) → (Nat → Nat → Int32) → (Nat → Nat → Int64) → Prop}, (∀ gi' bi' bl', Mq ai (ai 10) p na gi bi bl gi' bi' bl' → bi' 22 i = nI a → (isR 0 4 v2 → if v2 = 0 then Mo_cast_w gi' gl bi' bl' (nI i) (fun r => K r gi' bi' bl') else if v2 = 1 then Mo_camber_w gi' gl bi' bl' (nI i) (fun r => K r gi' bi' bl') else if v2 = 2 then K (al 17 i) gi' bi' bl' else if v2 = 3 then Mo_camber_w gi' gl bi' bl' (nI i) (fun r => K (-r) gi' bi' bl') else K (ai 11 k).toInt64 gi' bi' bl') ∧ (¬ isR 0 4 v2 → K (-1000000000000000000) gi' bi' bl')) → Mo_of_w gi gl bi bl (nI i) v2 K := fun {K} hK => by
        unfold Mo_of_w
        refine Mo_passPlan_s hN (fun gi' bi' bl' hM => Mo_isPart_s ((hM.1.1 0 (by omega)).trans g0) n2 (br_b (fun _ => ⟨vp_in_nI (by omega) (by omega), ?_⟩) (fun z => absurd e1 z)))
        have e22 := hM.2.2.2.1 i a (by omega) a1 a2 (by rw [a3]; exact ek)
        obtain ⟨y1, y2⟩ := hK gi' bi' bl' hM e22
        rw [nC hi2, e22, if_neg (show ¬ nI a < 0 by rw [i_lt, nT (by omega), show (0 : Int32).toInt = 0 from rfl]; omega)]
        refine Mo_in_r (a := 0) (b := 4) rfl rfl (br_b (fun e3 => ?_) (fun e3 => y2 e3))
        have y1 := y1 e3
        by_cases z0 : v2 = 0
        · rw [if_pos z0] at y1 ⊢; exact y1
        · rw [if_neg z0] at y1 ⊢
          by_cases z1 : v2 = 1
          · rw [if_pos z1] at y1 ⊢; exact y1
          · rw [if_neg z1] at y1 ⊢
            by_cases z2 : v2 = 2
            · rw [if_pos z2] at y1 ⊢
              refine ⟨vp_in_nI (by omega) (by omega), ?_⟩
              rw [hM.1.2.2, ho i (by omega)]; exact y1
            · rw [if_neg z2] at y1 ⊢
              by_cases z3 : v2 = 3
              · rw [if_pos z3] at y1 ⊢; exact y1
              · rw [if_neg z3] at y1 ⊢
                refine ⟨vp_in_nI (by omega) (by omega), vp_in_nI (by omega) (by omega), ?_⟩
                rw [nC (show a < 2147483648 by omega), hM.1.2.1 13 (by omega), (ha.1 a a1).2.2.2.1, ← a4]; exact y1
      by_cases z0 : v2 = 0
      · subst z0
        rw [if_pos rfl]
        refine ⟨vp_in_nI (by omega) (by omega), mo (fun gi' bi' bl' hM e22 => ⟨fun _ => ?_, fun z => absurd ⟨by decide, by decide⟩ z⟩)⟩
        rw [if_pos rfl]
        refine Mo_cast_s hN hM hw.2.2.1 hi hk2 ek ⟨?_, rel _ _ _ hM.1⟩
        rw [nC hi2, (e1' i k hi hk2 ek).2]
      · rw [if_neg z0]
        by_cases z1 : v2 = 1
        · subst z1
          rw [if_pos rfl]
          refine ⟨vp_in_nI (by omega) (by omega), mo (fun gi' bi' bl' hM e22 => ⟨fun _ => ?_, fun z => absurd ⟨by decide, by decide⟩ z⟩)⟩
          rw [if_neg z0, if_pos rfl]
          refine Mo_camber_s hN hM hw.2.2.1 hi hk2 ek ⟨?_, rel _ _ _ hM.1⟩
          rw [nC hi2, (e1' i k hi hk2 ek).1]
        · rw [if_neg z1]
          by_cases z2 : v2 = 2
          · subst z2
            rw [if_pos rfl]
            refine ⟨vp_in_nI (by omega) (by omega), mo (fun gi' bi' bl' hM e22 => ⟨fun _ => ?_, fun z => absurd ⟨by decide, by decide⟩ z⟩)⟩
            rw [if_neg z0, if_neg z1, if_pos rfl]
            refine ⟨?_, rel _ _ _ hM.1⟩
            rw [nC hi2, k1.2.2 17 (by omega) (by omega) (by omega)]
          · rw [if_neg z2]
            by_cases z3 : v2 = 3
            · subst z3
              rw [if_pos rfl]
              refine ⟨vp_in_nI (by omega) (by omega), mo (fun gi' bi' bl' hM e22 => ⟨fun _ => ?_, fun z => absurd ⟨by decide, by decide⟩ z⟩)⟩
              rw [if_neg z0, if_neg z1, if_neg z2, if_pos rfl]
              refine Mo_camber_s hN hM hw.2.2.1 hi hk2 ek ⟨?_, rel _ _ _ hM.1⟩
              rw [nC hi2, (e1' i k hi hk2 ek).1, Int64.neg_neg]
            · rw [if_neg z3]
              by_cases z4 : v2 = 4
              · subst z4
                rw [if_pos rfl]
                refine Pl_stageOf_s ((k1.1 4 (by omega)).trans c4) n6 (fun k' hk' ek' _ => ?_) (fun ek' => absurd (by rw [k1.2.1 10 (by omega)]; exact ek) (ek' k hk2))
                rw [k1.2.1 10 (by omega)] at ek'
                obtain rfl : k' = k := hw.2.2.1 k' k hk' hk2 (ek'.trans ek.symm)
                refine mo (fun gi' bi' bl' hM e22 => ⟨fun _ => ?_, fun z => absurd ⟨by decide, by decide⟩ z⟩)
                rw [if_neg z0, if_neg z1, if_neg z2, if_neg z3]
                refine ⟨?_, rel _ _ _ hM.1⟩
                rw [k1.2.1 11 (by omega)]
              · rw [if_neg z4]
                refine mo (fun gi' bi' bl' hM e22 => ⟨fun z => absurd z ?_, fun _ => ⟨rfl, rel _ _ _ hM.1⟩⟩)
                intro u
                have r0 : v2.toInt ≠ 0 := fun y => z0 (i_eq.mpr y)
                have r1 : v2.toInt ≠ 1 := fun y => z1 (i_eq.mpr y)
                have r2 : v2.toInt ≠ 2 := fun y => z2 (i_eq.mpr y)
                have r3 : v2.toInt ≠ 3 := fun y => z3 (i_eq.mpr y)
                have r4 : v2.toInt ≠ 4 := fun y => z4 (i_eq.mpr y)
                unfold isR at u
                omega
    · rw [if_neg (by decide)]
      unfold Mo_of_w
      refine Mo_passPlan_s hN (fun gi' bi' bl' hM => Mo_isPart_s ((hM.1.1 0 (by omega)).trans g0) n2 (br_b (fun _ => ⟨vp_in_nI (by omega) (by omega), ?_⟩) (fun z => absurd e1 z)))
      rw [nC hi2, hM.2.2.2.2 i (by omega) (fun a h1 h2 h3 => ek (cnt (ai 6) a) (by rw [hw.1]; exact cnt_lt h1 h2) h3), if_pos (show (-1 : Int32) < 0 by decide)]
      exact ⟨rfl, Rl.i p nc ns na nd nr no (hN.keep Kc.rf hM.1)⟩
  · unfold Mo_of_w
    refine Mo_passPlan_s hN (fun gi' bi' bl' hM => Mo_isPart_s ((hM.1.1 0 (by omega)).trans g0) n2 (br_b (fun z => absurd z e1) (fun _ => ⟨rfl, Rl.i p nc ns na nd nr no (hN.keep Kc.rf hM.1)⟩)))
/-- nearer to 0 by so much -/
def twZ (e x : Int64) : Int64 := if (0 : Int64) ≤ e then (if e - x < 0 then 0 else e - x) else (if e + x < 0 then e + x else 0)
theorem SS_towardsZero_s {K : Int64 → Prop} {e x : Int64} (h : K (twZ e x)) : SS_towardsZero_w e x K := by
  unfold SS_towardsZero_w zw_nm
  unfold twZ at h
  by_cases z : (0 : Int64) ≤ e
  · rw [if_pos z] at h ⊢; exact h
  · rw [if_neg z] at h ⊢; exact h
theorem l_rng (x : Int64) : -9223372036854775808 ≤ x.toInt ∧ x.toInt ≤ 9223372036854775807 := ⟨Int64.le_toInt x, by have := Int64.toInt_lt x; omega⟩
theorem l_addR {x y : Int64} (h : -9223372036854775808 ≤ x.toInt + y.toInt ∧ x.toInt + y.toInt ≤ 9223372036854775807) : (x + y).toInt = x.toInt + y.toInt := by
  rw [Int64.toInt_add, Int.bmod_eq_of_le (by omega) (by omega)]
theorem l_subR {x y : Int64} (h : -9223372036854775808 ≤ x.toInt - y.toInt ∧ x.toInt - y.toInt ≤ 9223372036854775807) : (x - y).toInt = x.toInt - y.toInt := by
  rw [Int64.toInt_sub, Int.bmod_eq_of_le (by omega) (by omega)]
theorem l_negR {x : Int64} (h : -9223372036854775808 < x.toInt) : (-x).toInt = -x.toInt := by
  have := l_rng x
  rw [Int64.toInt_neg, Int.bmod_eq_of_le (by omega) (by omega)]
theorem l_eq {x y : Int64} : x = y ↔ x.toInt = y.toInt := Int64.toInt_inj.symm
theorem twZ_m {e x : Int64} (h0 : 0 ≤ x.toInt) (h1 : x.toInt ≤ 1000000000000000) : (e ≤ 0 → (-x ≤ e → twZ e x = 0) ∧ (¬ -x ≤ e → twZ e x = e + x)) ∧ (¬ e ≤ 0 → (e ≤ x → twZ e x = 0) ∧ (¬ e ≤ x → twZ e x = e - x)) := by
  have er := l_rng e
  have n : (-x).toInt = -x.toInt := l_negR (by omega)
  have z0 : (0 : Int64).toInt = 0 := rfl
  unfold twZ
  simp only [l_le, l_lt, n, z0]
  refine ⟨fun h => ?_, fun h => ?_⟩
  · by_cases q : (0 : Int) ≤ e.toInt
    · rw [if_pos q]
      have ez : e.toInt = 0 := by omega
      refine ⟨fun h2 => ?_, fun h2 => by omega⟩
      rw [l_subR (by omega)]
      by_cases w : e.toInt - x.toInt < 0
      · rw [if_pos w]
      · rw [if_neg w, l_eq, l_subR (by omega), z0]; omega
    · rw [if_neg q, l_addR (by omega)]
      refine ⟨fun h2 => if_neg (by omega), fun h2 => if_pos (by omega)⟩
  · rw [if_pos (show (0 : Int) ≤ e.toInt by omega), l_subR (by omega)]
    refine ⟨fun h2 => ?_, fun h2 => if_neg (by omega)⟩
    by_cases w : e.toInt - x.toInt < 0
    · rw [if_pos w]
    · rw [if_neg w, l_eq, l_subR (by omega), z0]; omega
/-- how much less for the first k of the row, where the survey was in stage y -/
def acS (ast : Nat → Int32) (y m : Int32) : Nat → Int64
  | 0 => 0
  | k + 1 => if ast k ≤ y then acS ast y m k else acS ast y m k + m.toInt64 * 1000000000
theorem acS_s {ast : Nat → Int32} {y m : Int32} {k : Nat} : acS ast y m (k + 1) = if ast k ≤ y then acS ast y m k else acS ast y m k + m.toInt64 * 1000000000 := rfl
theorem acS_r {ast : Nat → Int32} {y m : Int32} (hm : isR 0 1000 m) : ∀ k, k ≤ 6 → 0 ≤ (acS ast y m k).toInt ∧ (acS ast y m k).toInt ≤ k * 1000000000000 := by
  intro k
  induction k with
  | zero => intro _; exact (show 0 ≤ (0 : Int64).toInt ∧ (0 : Int64).toInt ≤ ((0 : Nat) : Int) * 1000000000000 from ⟨by decide, by decide⟩)
  | succ k ih =>
    intro h
    have ih := ih (by omega)
    obtain ⟨m1, m2⟩ := hm
    rw [acS_s]
    by_cases z : ast k ≤ y
    · rw [if_pos z]; omega
    · rw [if_neg z]
      have e : (m.toInt64 * 1000000000).toInt = m.toInt * 1000000000 := by
        rw [Int64.toInt_mul, i_l, show (1000000000 : Int64).toInt = 1000000000 from rfl, Int.bmod_eq_of_le (by omega) (by omega)]
      rw [l_addR (by rw [e]; omega), e]
      omega
def ofS (row ast : Nat → Int32) (O : Nat → Int64) (y m : Int32) (e : Int64) : Nat → (Nat → Int64)
  | 0 => O
  | k + 1 => if ast k ≤ y then ofS row ast O y m e k else vp_updL (ofS row ast O y m e k) (row k).toNatClampNeg (twZ e (acS ast y m (k + 1)))
theorem ofS_s {row ast : Nat → Int32} {O : Nat → Int64} {y m : Int32} {e : Int64} {k : Nat} : ofS row ast O y m e (k + 1) = if ast k ≤ y then ofS row ast O y m e k else vp_updL (ofS row ast O y m e k) (row k).toNatClampNeg (twZ e (acS ast y m (k + 1))) := rfl
theorem SS_spread_s {K : (Nat → Nat → Int64) → Prop} {fi : Nat → Int32} {fl : Nat → Int64} {ai : Nat → Nat → Int32} {al : Nat → Nat → Int64} {nd : Nat} {e : Int64} {y : Int32} (h4 : fi 4 = nI nd) (h6 : nd ≤ 6) (hr : ∀ k, k < nd → isP 6 (ai 10 k)) (h : K (va_up al 17 (ofS (ai 10) (ai 11) (al 17) y (fi 0) e nd))) : SS_spread_w fi fl ai al e y K := by
  unfold SS_spread_w
  rw [h4]
  refine lp3_d nd (by omega) (fun k v al' => v = acS (ai 11) y (fi 0) k ∧ al' = va_up al 17 (ofS (ai 10) (ai 11) (al 17) y (fi 0) e k)) (fun L k v al' hk hI hL => ?_) 0 0 al (by omega) ⟨rfl, (va_self al 17).symm⟩
  obtain ⟨rfl, rfl⟩ := hI
  refine br_n (by omega) (by omega) (fun q => by obtain rfl : k = nd := by omega
                                                 exact h) (fun q => ⟨vp_in_nI (by omega) (by omega), ?_⟩)
  rw [nC (by omega)]
  refine jn2_o (fun v al' => v = acS (ai 11) y (fi 0) (k + 1) ∧ al' = va_up al 17 (ofS (ai 10) (ai 11) (al 17) y (fi 0) e (k + 1))) (fun v al' hY => ?_) (fun J hJ => br_i Iff.rfl (fun z => hJ _ _ ⟨?_, ?_⟩) (fun z => ?_))
  · unfold zw_nm; rw [nI_p1]; exact hL _ _ q hY
  · rw [acS_s, if_pos z]
  · rw [ofS_s, if_pos z]
  · unfold zw_nm
    obtain ⟨w, w1, w2, w3⟩ := isP_of (hr k q)
    refine ⟨vp_in_nI (by omega) (by omega), SS_towardsZero_s ⟨by rw [w3]; exact vp_in_nI (by omega) (by omega), hJ _ _ ⟨by rw [acS_s, if_neg z], ?_⟩⟩⟩
    rw [ofS_s, if_neg z, acS_s, if_neg z, va_s]
    funext r
    by_cases u : r = 17
    · subst u; rw [va_s, va_s]
    · rw [va_n _ _ u, va_n _ _ u, va_n _ _ u]
