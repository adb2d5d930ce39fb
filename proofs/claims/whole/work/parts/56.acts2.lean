/-! PURE: load, support, told -/
theorem b_1 (i : Nat) : bt 1 i = decide (i = 0) := by
  rcases Nat.lt_or_ge i 32 with h | h
  · exact (by decide +kernel : ∀ i, i < 32 → bt 1 i = decide (i = 0)) i h
  · rw [b_big h, decide_eq_false (by omega)]
theorem b_bit {w k : Nat} (hw : w < 32) (hk : k < 32) : bt ((1 : Int32) <<< (nI w &&& 31)) k = decide (k = w) := by
  rw [b_shl w hw 1 hk, b_1]
  by_cases h : k = w
  · subst h; simp
  · by_cases h2 : w ≤ k
    · simp [h2, h]; omega
    · simp [h2, h]
theorem b_off {w k : Nat} (hw : w < 32) (hk : k < 32) : bt (((1 : Int32) <<< (nI w &&& 31)) ^^^ (-1)) k = !decide (k = w) := by
  rw [b_xor, b_bit hw hk, b_m1 k hk]
  simp
theorem b_and1 {x : Int32} : x &&& 1 = 1 ↔ bt x 0 = true := by
  constructor
  · intro h
    have := congrArg (fun z => bt z 0) h
    rw [show bt (x &&& 1) 0 = (bt x 0 && bt 1 0) from b_and x 1 0, b_1] at this
    simpa using this
  · intro h
    apply b_ext
    intro i hi
    rw [b_and, b_1]
    by_cases e : i = 0
    · subst e; simp [h]
    · simp [e]
theorem b_has {x : Int32} {l : Nat} (hl : l < 32) : (x >>> (nI l &&& 31)) &&& 1 = 1 ↔ bt x l = true := by
  rw [b_and1, b_sshr l hl x (by omega), if_pos (by omega), Nat.add_zero]
theorem SS_hasBit_s {K : Int32 → Prop} {x : Int32} {l : Nat} (hl : l < 32) (h : K (bI (bt x l = true))) : SS_hasBit_w x (nI l) K := by
  unfold SS_hasBit_w
  refine br_i (b_has hl) (fun e => ?_) (fun e => ?_)
  · rw [bI_t e] at h; exact h
  · rw [bI_f e] at h; exact h
/-- whether support k is on behind the first a acts -/
def onk (kd wh : Nat → Int32) (k : Nat) : Nat → Bool
  | 0 => false
  | a + 1 => if kd a = 2 ∧ wh a = nI k then true else if kd a = 3 ∧ wh a = nI k then false else onk kd wh k a
theorem onk_s {kd wh : Nat → Int32} {k a : Nat} : onk kd wh k (a + 1) = if kd a = 2 ∧ wh a = nI k then true else if kd a = 3 ∧ wh a = nI k then false else onk kd wh k a := rfl
theorem onk_c {kd wh kd' wh' : Nat → Int32} {k n : Nat} : (∀ a, a < n → kd' a = kd a ∧ wh' a = wh a) → ∀ a, a ≤ n → onk kd' wh' k a = onk kd wh k a := by
  intro h a
  induction a with
  | zero => intro _; rfl
  | succ a ih =>
    intro ha
    rw [onk_s, onk_s, (h a (by omega)).1, (h a (by omega)).2, ih (by omega)]
section SB
variable {fi : Nat → Int32} {fl : Nat → Int64} {ai : Nat → Nat → Int32} {al : Nat → Nat → Int64} {p nc ns na nd nr no : Nat} {v1 v2 v3 v4 x : Int32}
theorem Pl_onBits_s {K : Int32 → Prop} (h3 : fi 3 = nI na) (h40 : na ≤ 40) (hk : ∀ a, a < na → ai 6 a = 2 ∨ ai 6 a = 3 → isP 3 (ai 7 a)) (hy : ∀ b, (∀ k, k < 32 → bt b k = onk (ai 6) (ai 7) k na) → K b) : Pl_onBits_w fi fl ai al K := by
  unfold Pl_onBits_w
  rw [h3]
  refine lp2_d na (by omega) (fun a b => ∀ k, k < 32 → bt b k = onk (ai 6) (ai 7) k a) (fun L a b ha hI hL => ?_) 0 0 (by omega) (fun k _ => b_0 k)
  refine br_n (by omega) (by omega) (fun h => hy b (fun k hk2 => by rw [hI k hk2, show a = na by omega])) (fun h => ⟨vp_in_nI (by omega) (by omega), ?_⟩)
  rw [nC (by omega)]
  refine jn1_o (fun b => ∀ k, k < 32 → bt b k = onk (ai 6) (ai 7) k (a + 1)) (fun y hY => ?_) (fun J hJ => ?_)
  · unfold zw_nm; rw [nI_p1]; exact hL y h hY
  · refine br_i Iff.rfl (fun e => ⟨vp_in_nI (by omega) (by omega), ?_⟩) (fun e => ⟨vp_in_nI (by omega) (by omega), br_i Iff.rfl (fun e2 => ⟨vp_in_nI (by omega) (by omega), ?_⟩) (fun e2 => hJ _ (fun k hk2 => ?_))⟩)
    · obtain ⟨w, hw, -, ew⟩ := isP_of (hk a h (Or.inl e))
      refine hJ _ (fun k hk2 => ?_)
      rw [ew, b_or, b_bit (by omega) hk2, hI k hk2]
      rw [onk_s, ew, e]
      by_cases q : k = w
      · subst q; simp
      · have q2 : ¬ nI w = nI k := fun z => q (nI_inj (by omega) (by omega) z).symm
        simp [q, q2]
    · obtain ⟨w, hw, -, ew⟩ := isP_of (hk a h (Or.inr e2))
      refine hJ _ (fun k hk2 => ?_)
      rw [ew, b_and, b_off (by omega) hk2, hI k hk2]
      rw [onk_s, ew, e2]
      by_cases q : k = w
      · subst q; simp
      · have q2 : ¬ nI w = nI k := fun z => q (nI_inj (by omega) (by omega) z).symm
        simp [q, q2]
    · rw [hI k hk2]
      rw [onk_s, if_neg (fun q => e q.1), if_neg (fun q => e2 q.1)]
theorem Mo_isOn_s {K : Int32 → Prop} {k : Nat} (hk3 : k < 3) (h3 : fi 3 = nI na) (h40 : na ≤ 40) (hk : ∀ a, a < na → ai 10 a = 0 ∨ ai 10 a = 1 ∨ ai 10 a = 2 ∨ ai 10 a = 3) (h : K (bI (onk (ai 10) (ai 11) k na = true))) : Mo_isOn_w fi fl ai al (nI k) K := by
  unfold Mo_isOn_w
  rw [h3]
  refine lp2_d na (by omega) (fun a b => b = bI (onk (ai 10) (ai 11) k a = true)) (fun L a b ha hI hL => ?_) 0 0 (by omega) rfl
  refine br_n (by omega) (by omega) (fun q => ?_) (fun q => ⟨vp_in_nI (by omega) (by omega), ?_⟩)
  · rw [hI, show a = na by omega]; exact ⟨bI_bool _, h⟩
  · rw [nC (by omega)]
    refine jn1_o (fun b => b = bI (onk (ai 10) (ai 11) k (a + 1) = true)) (fun y hY => ?_) (fun J hJ => ?_)
    · unfold zw_nm; rw [nI_p1]; exact hL y q hY
    · refine jn0_o (¬ ((ai 10 a = 2 ∨ ai 10 a = 3) ∧ ai 11 a = nI k)) (fun hne => hJ b ?_) (fun J2 hJ2 => ?_)
      · rw [hI]
        refine bI_iff ?_
        show _ ↔ onk (ai 10) (ai 11) k (a + 1) = true
        rw [show onk (ai 10) (ai 11) k (a + 1) = onk (ai 10) (ai 11) k a from by
          show (if _ then _ else _) = _
          rw [if_neg (fun z => hne ⟨Or.inl z.1, z.2⟩), if_neg (fun z => hne ⟨Or.inr z.1, z.2⟩)]]
      · have c1 : ai 10 a ≤ 1 ↔ ¬ (ai 10 a = 2 ∨ ai 10 a = 3) := by
          rcases hk a q with e | e | e | e <;> rw [e] <;> decide
        refine br_i c1 (fun e => hJ2 (fun z => e z.1)) (fun e => ⟨vp_in_nI (by omega) (by omega), br_i Iff.rfl (fun e2 => ⟨vp_in_nI (by omega) (by omega), br_i Iff.rfl (fun e3 => hJ _ ?_) (fun e3 => hJ _ ?_)⟩) (fun e2 => hJ2 (fun z => e2 z.2))⟩)
        · rw [bI_t]
          show (if _ then _ else _) = _
          rw [if_pos ⟨e3, e2⟩]
        · rw [bI_f]
          show ¬ (if _ then _ else _) = _
          have e4 : ai 10 a = 3 := by
            rcases hk a q with z | z | z | z
            · exact absurd (Decidable.not_not.mp e) (by rw [z]; decide)
            · exact absurd (Decidable.not_not.mp e) (by rw [z]; decide)
            · exact absurd z e3
            · exact z
          rw [if_neg (fun z => e3 z.1), if_pos ⟨e4, e2⟩]
          decide
theorem SS_load_s {K : Int32 → (Nat → Int32) → (Nat → Nat → Int32) → Prop} (hp : fi 7 = nI p) (h6 : p ≤ 6) (h2 : fi 2 = nI ns) (h12 : ns ≤ 12) (h3 : fi 3 = nI na) (h40 : na ≤ 40) (h4 : fi 4 = nI nd) (hd6 : nd ≤ 6) (hy : 0 < ns → na < 40 → isP p v1 → (∃ k, k < nd ∧ ai 10 k = v1) → isR (-1000) 1000 v2 → K 1 (va_up fi 3 (nI (na + 1))) (ac4 ai 6 na 1 v1 v2 (nI (ns - 1)))) (hno : ¬ ((0 < ns ∧ na < 40) ∧ isP p v1 ∧ (∃ k, k < nd ∧ ai 10 k = v1) ∧ isR (-1000) 1000 v2) → K 0 fi ai) : SS_load_w fi fl ai al v1 v2 K := by
  unfold SS_load_w
  refine Pl_hasRoom_s h2 h12 h3 h40 (br_b (fun e1 => ?_) (fun e => hno (fun q => e q.1)))
  refine Gi_hasPart_s hp h6 (br_b (fun e2 => ?_) (fun e => hno (fun q => e q.2.1)))
  refine Pl_placeOf_s h4 hd6 (fun k hk ek _ => ?_) (fun e => ?_)
  · refine br_i (nI_lt' (c := 0) (m := 0) rfl (by omega) (by omega)) (fun e => absurd e (by omega)) (fun _ => ?_)
    refine SS_within_r (a := -1000) (b := 1000) rfl rfl (br_b (fun e4 => ?_) (fun e => hno (fun q => e q.2.2.2)))
    exact Pl_putAct_s h2 e1.1 h12 h3 e1.2 (hy e1.1 e1.2 e2 ⟨k, hk, ek⟩ e4)
  · refine br_i (Iff.refl _) (fun _ => hno (fun q => ?_)) (fun e3 => absurd (by decide) e3)
    obtain ⟨k, hk, ek⟩ := q.2.2.1
    exact e k hk ek
theorem Mo_load_s {K : Int32 → (Nat → Int32) → (Nat → Nat → Int32) → Prop} (hp : fi 0 = nI p) (h6 : p ≤ 6) (h2 : fi 2 = nI ns) (h12 : ns ≤ 12) (h3 : fi 3 = nI na) (h40 : na ≤ 40) (hy : 0 < ns → na < 40 → isP p v1 → (∃ a, a < na ∧ ai 10 a = 0 ∧ ai 11 a = v1) → isR (-1000) 1000 v2 → K 1 (va_up fi 3 (nI (na + 1))) (ac4 ai 10 na 1 v1 v2 (nI (ns - 1)))) (hno : ¬ ((0 < ns ∧ na < 40) ∧ isP p v1 ∧ (∃ a, a < na ∧ ai 10 a = 0 ∧ ai 11 a = v1) ∧ isR (-1000) 1000 v2) → K 0 fi ai) : Mo_load_w fi fl ai al v1 v2 K := by
  unfold Mo_load_w
  refine Mo_mayPut_s h2 h12 h3 h40 (br_b (fun e1 => ?_) (fun e => hno (fun q => e q.1)))
  refine Mo_isPart_s hp h6 (br_b (fun e2 => ?_) (fun e => hno (fun q => e q.2.1)))
  refine Mo_actOf_s h3 h40 (fun a h1 ek ew _ => ?_) (fun e => ?_)
  · refine br_i (nI_lt' (c := 0) (m := 0) rfl (by omega) (by omega)) (fun e => absurd e (by omega)) (fun _ => ?_)
    refine Mo_in_r (a := -1000) (b := 1000) rfl rfl (br_b (fun e4 => ?_) (fun e => hno (fun q => e q.2.2.2)))
    exact Mo_put_s h2 e1.1 h12 h3 e1.2 (hy e1.1 e1.2 e2 ⟨a, h1, ek, ew⟩ e4)
  · refine br_i (Iff.refl _) (fun _ => hno (fun q => ?_)) (fun e3 => absurd (by decide) e3)
    obtain ⟨k, hk, ek⟩ := q.2.2.1
    exact e k hk ek
end SB
theorem s_load : st_load Rl := by
  intro fi fl ai al gi gl bi bl v1 v2 hR
  obtain ⟨p, nc, ns, na, nd, nr, no, hN⟩ := Rl.e hR
  obtain ⟨hn, hC, hg, hk, hd, ha, hw, hf, he, ho, hr, hq⟩ := id hN
  obtain ⟨n1, n2, n3, n4, n5, n6, n7, n8⟩ := id hn
  obtain ⟨c7, g0, c1, g1, c2, g2, c3, g3, c4, c6, g6, c11, g7, c5, c0, c0r⟩ := id hC
  refine SS_load_s c7 n2 c2 n4 c3 n5 c4 n6 (fun h1 h2 h3 h4 h5 => ?_) (fun h => ?_)
  · refine Mo_load_s g0 n2 g2 n4 g3 n5 (fun _ _ _ _ _ => ?_) (fun h => absurd ⟨⟨h1, h2⟩, h3, (hN.there v1).mp h4, h5⟩ h)
    exact ⟨rfl, Rl.i p nc ns (na + 1) nd nr no (hN.put h1 h2 (by decide) (Or.inl ⟨rfl, h3, h5, h4⟩))⟩
  · exact Mo_load_s g0 n2 g2 n4 g3 n5 (fun h1 h2 h3 h4 h5 => absurd ⟨⟨h1, h2⟩, h3, (hN.there v1).mpr h4, h5⟩ h) (fun _ => ⟨rfl, hR⟩)
theorem RlN.onEq {p nc ns na nd nr no : Nat} {fi gi : Nat → Int32} {ai bi : Nat → Nat → Int32} {al bl : Nat → Nat → Int64} (h : RlN p nc ns na nd nr no fi ai al gi bi bl) (k : Nat) : onk (bi 10) (bi 11) k na = onk (ai 6) (ai 7) k na := by
  obtain ⟨hn, hC, hg, hk0, hd, ha, hw, hf, he, ho, hr, hq⟩ := h
  exact onk_c (n := na) (fun a h => ⟨(ha.1 a h).1, (ha.1 a h).2.1⟩) na (Nat.le_refl _)
theorem RlN.k4 {p nc ns na nd nr no : Nat} {fi gi : Nat → Int32} {ai bi : Nat → Nat → Int32} {al bl : Nat → Nat → Int64} (h : RlN p nc ns na nd nr no fi ai al gi bi bl) (a : Nat) (h1 : a < na) : bi 10 a = 0 ∨ bi 10 a = 1 ∨ bi 10 a = 2 ∨ bi 10 a = 3 := by
  obtain ⟨hn, hC, hg, hk0, hd, ha, hw, hf, he, ho, hr, hq⟩ := h
  obtain ⟨q1, -, -, -, -, q⟩ := ha.1 a h1
  rw [q1]
  rcases q with q | q | q | q
  · exact Or.inl q.1
  · exact Or.inr (Or.inl q.1)
  · exact Or.inr (Or.inr (Or.inl q.1))
  · exact Or.inr (Or.inr (Or.inr q.1))
theorem RlN.k3 {p nc ns na nd nr no : Nat} {fi gi : Nat → Int32} {ai bi : Nat → Nat → Int32} {al bl : Nat → Nat → Int64} (h : RlN p nc ns na nd nr no fi ai al gi bi bl) (a : Nat) (h1 : a < na) (h2 : ai 6 a = 2 ∨ ai 6 a = 3) : isP 3 (ai 7 a) := by
  obtain ⟨hn, hC, hg, hk0, hd, ha, hw, hf, he, ho, hr, hq⟩ := h
  obtain ⟨-, -, -, -, -, q⟩ := ha.1 a h1
  rcases q with q | q | q | q
  · rcases h2 with h2 | h2 <;> rw [q.1] at h2 <;> exact absurd h2 (by decide)
  · rcases h2 with h2 | h2 <;> rw [q.1] at h2 <;> exact absurd h2 (by decide)
  · exact q.2
  · exact q.2
theorem s_support : st_support Rl := by
  intro fi fl ai al gi gl bi bl v1 v2 hb2 hR
  obtain ⟨p, nc, ns, na, nd, nr, no, hN⟩ := Rl.e hR
  obtain ⟨hn, hC, hg, hk, hd, ha, hw, hf, he, ho, hr, hq⟩ := id hN
  obtain ⟨n1, n2, n3, n4, n5, n6, n7, n8⟩ := id hn
  obtain ⟨c7, g0, c1, g1, c2, g2, c3, g3, c4, c6, g6, c11, g7, c5, c0, c0r⟩ := id hC
  unfold SS_support_w
  have no1 : ¬ (0 < ns ∧ na < 40) → Mo_support_w gi gl bi bl v1 v2 (fun r' gi' bi' => (0 : Int32) = r' ∧ Rl (fi, fl, ai, al) (gi', gl, bi', bl)) := fun e => by
    unfold Mo_support_w
    exact Mo_mayPut_s g2 n4 g3 n5 (br_b (fun e1 => absurd e1 e) (fun _ => ⟨rfl, hR⟩))
  refine Pl_hasRoom_s c2 n4 c3 n5 (br_b (fun e1 => ?_) no1)
  refine SS_isSupport_s (br_b (fun e2 => ?_) (fun e2 => ?_))
  · obtain ⟨k, hk3, -, rfl⟩ := isP_of e2
    refine Pl_onBits_s c3 n5 hN.k3 (fun b hb => SS_hasBit_s (by omega) ?_)
    rw [hb k (by omega)]
    have mo : ∀ {K : Int32 → (Nat → Int32) → (Nat → Nat → Int32) → Prop}, (if bI (onk (ai 6) (ai 7) k na = true) = v2 then K 0 gi bi else (if v2 = 0 then K 1 (va_up gi 3 (nI (na + 1))) (ac4 bi 10 na 3 (nI k) 0 (nI (ns - 1))) else K 1 (va_up gi 3 (nI (na + 1))) (ac4 bi 10 na 2 (nI k) 0 (nI (ns - 1))))) → Mo_support_w gi gl bi bl (nI k) v2 K := fun {K} hK => by
      unfold Mo_support_w
      refine Mo_mayPut_s g2 n4 g3 n5 (br_b (fun _ => ?_) (fun e => absurd e1 e))
      refine Mo_in_r (a := 0) (b := 2) rfl rfl (br_b (fun _ => ?_) (fun e => absurd (isR3.mpr e2) e))
      refine Mo_isOn_s hk3 g3 n5 hN.k4 ?_
      rw [hN.onEq k]
      refine br_i Iff.rfl (fun e => ?_) (fun e => ?_)
      · rw [if_pos e] at hK; exact hK
      · rw [if_neg e] at hK
        refine jn1_o (fun y => (v2 = 0 ∧ y = 3) ∨ (¬ v2 = 0 ∧ y = 2)) (fun y hY => ?_) (fun J hJ => br_i Iff.rfl (fun q => hJ _ (Or.inl ⟨q, rfl⟩)) (fun q => hJ _ (Or.inr ⟨q, rfl⟩)))
        rcases hY with ⟨q, rfl⟩ | ⟨q, rfl⟩
        · rw [if_pos q] at hK; exact Mo_put_s g2 e1.1 n4 g3 e1.2 hK
        · rw [if_neg q] at hK; exact Mo_put_s g2 e1.1 n4 g3 e1.2 hK
    refine br_i Iff.rfl (fun e => mo (by rw [if_pos e]; exact ⟨rfl, hR⟩)) (fun e => ?_)
    refine jn1_o (fun y => (v2 = 0 ∧ y = 3) ∨ (¬ v2 = 0 ∧ y = 2)) (fun y hY => ?_) (fun J hJ => br_i Iff.rfl (fun q => hJ _ (Or.inl ⟨q, rfl⟩)) (fun q => hJ _ (Or.inr ⟨q, rfl⟩)))
    rcases hY with ⟨q, rfl⟩ | ⟨q, rfl⟩
    · refine Pl_putAct_s c2 e1.1 n4 c3 e1.2 (mo ?_)
      rw [if_neg e, if_pos q]
      exact ⟨rfl, Rl.i p nc ns (na + 1) nd nr no (hN.put e1.1 e1.2 (by decide) (Or.inr (Or.inr ⟨rfl, e2⟩)))⟩
    · refine Pl_putAct_s c2 e1.1 n4 c3 e1.2 (mo ?_)
      rw [if_neg e, if_neg q]
      exact ⟨rfl, Rl.i p nc ns (na + 1) nd nr no (hN.put e1.1 e1.2 (by decide) (Or.inr (Or.inl ⟨rfl, e2⟩)))⟩
  · unfold Mo_support_w
    refine Mo_mayPut_s g2 n4 g3 n5 (br_b (fun _ => ?_) (fun e => absurd e1 e))
    exact Mo_in_r (a := 0) (b := 2) rfl rfl (br_b (fun e => absurd (isR3.mp e) e2) (fun _ => ⟨rfl, hR⟩))
