/-! PURE: after -/
theorem nar1 : vp_nar .boolean (1 : Int32) = 1 := by decide
theorem nar0 : vp_nar .boolean (0 : Int32) = 0 := by decide
theorem d36 : ∀ m, m < 36 → nI m / (6 : Int32) = nI (m / 6) ∧ nI m - nI m / (6 : Int32) * (6 : Int32) = nI (m % 6) := by decide +kernel
/-- how many of six are not 0 -/
def cn (f : Nat → Int32) (n : Nat) : Nat := match n with
  | 0 => 0
  | n + 1 => cn f n + (if f n = 0 then 0 else 1)
theorem cn_le {f : Nat → Int32} : ∀ n, cn f n ≤ n := by
  intro n
  induction n with
  | zero => exact Nat.le_refl _
  | succ n ih =>
    show cn f n + (if f n = 0 then 0 else 1) ≤ n + 1
    by_cases h : f n = 0
    · rw [if_pos h]; omega
    · rw [if_neg h]; omega
theorem cn_mono {f g : Nat → Int32} : ∀ n, (∀ i, i < n → ¬ f i = 0 → ¬ g i = 0) → cn f n ≤ cn g n := by
  intro n
  induction n with
  | zero => intro _; exact Nat.le_refl _
  | succ n ih =>
    intro h
    have := ih (fun i hi => h i (by omega))
    show cn f n + (if f n = 0 then 0 else 1) ≤ cn g n + (if g n = 0 then 0 else 1)
    by_cases h1 : f n = 0
    · rw [if_pos h1]; omega
    · rw [if_neg h1, if_neg (h n (by omega) h1)]; omega
theorem cn_lt {f g : Nat → Int32} {y : Nat} : ∀ n, (∀ i, i < n → ¬ f i = 0 → ¬ g i = 0) → y < n → f y = 0 → ¬ g y = 0 → cn f n < cn g n := by
  intro n
  induction n with
  | zero => intro _ h; exact absurd h (Nat.not_lt_zero _)
  | succ n ih =>
    intro h hy e1 e2
    show cn f n + (if f n = 0 then 0 else 1) < cn g n + (if g n = 0 then 0 else 1)
    by_cases q : y = n
    · have := cn_mono n (f := f) (g := g) (fun i hi => h i (by omega))
      rw [← q, if_pos e1, if_neg e2, q]; omega
    · have := ih (fun i hi => h i (by omega)) (by omega) e1 e2
      by_cases h1 : f n = 0
      · rw [if_pos h1]; omega
      · rw [if_neg h1, if_neg (h n (by omega) h1)]; omega
/-- what is marked is b or must come after b -/
def Ub (bi : Nat → Nat → Int32) (b : Nat) (f : Nat → Int32) : Prop := (∀ i, i < 6 → f i = 0 ∨ f i = 1) ∧ (∀ i, i < 6 → ¬ f i = 0 → i = b ∨ Rh bi b i) ∧ ¬ f b = 0
def Uc (bi : Nat → Nat → Int32) (f : Nat → Int32) : Prop := ∀ x y, Ed bi x y → ¬ f x = 0 → ¬ f y = 0
theorem Rh.lt {bi : Nat → Nat → Int32} {x y : Nat} (h : Rh bi x y) : x < 6 ∧ y < 6 := by
  unfold Rh at h
  induction h with
  | single e => exact ⟨e.1, e.2.1⟩
  | tail _ e ih => exact ⟨ih.1, e.2.1⟩
theorem Uc.all {bi : Nat → Nat → Int32} {b : Nat} {f : Nat → Int32} (hc : Uc bi f) (hb : ¬ f b = 0) {y : Nat} (h : Rh bi b y) : ¬ f y = 0 := by
  unfold Rh at h
  induction h with
  | single e => exact hc _ _ e hb
  | tail _ e ih => exact hc _ _ e ih
section AF
variable {fi : Nat → Int32} {fl : Nat → Int64} {ai : Nat → Nat → Int32} {al : Nat → Nat → Int64} {p nc ns na nd nr no : Nat} {v1 v2 v3 v4 x : Int32}
theorem Mo_comesAfter_s {K : Int32 → (Nat → Nat → Int32) → Prop} {a b : Nat} (ha : a < 6) (hb : b < 6)
    (hy : ∀ c ai', (∀ q, q ≠ 27 → ai' q = ai q) → (c = 0 ↔ ¬ (a = b ∨ Rh ai b a)) → K c ai') : Mo_comesAfter_w fi fl ai al (nI a) (nI b) K := by
  unfold Mo_comesAfter_w
  refine lp2_c 6 (by omega) (fun k ai' => (∀ q, q ≠ 27 → ai' q = ai q) ∧ ∀ i, i < k → ai' 27 i = if i = b then 1 else 0) (fun L k ai1 hk hI hL => ?_) 0 ai (by omega) ⟨fun _ _ => rfl, fun i h => absurd h (Nat.not_lt_zero _)⟩
  refine br_n (n := 6) (by omega) (by omega) (fun h6 => ?_) (fun h6 => ?_)
  · obtain rfl : k = 6 := by omega
    refine lp2_c 6 (by omega) (fun k ai' => (∀ q, q ≠ 27 → ai' q = ai q) ∧ Ub ai b (ai' 27) ∧ (Uc ai (ai' 27) ∨ k + 1 ≤ cn (ai' 27) 6)) (fun L k ai2 hk hI hL => ?_) 0 ai1 (by omega) ⟨hI.1, ⟨fun i hi => ?_, fun i hi e => ?_, ?_⟩, Or.inr ?_⟩
    · obtain ⟨h1, h2, h3⟩ := hI
      refine br_n (n := 6) (by omega) (by omega) (fun h6 => ?_) (fun h6 => ?_)
      · have cl : Uc ai (ai2 27) := by
          rcases h3 with q | q
          · exact q
          · have := cn_le (f := ai2 27) 6
            omega
        rw [nC (by omega)]
        refine ⟨vp_in_nI (by omega) (by omega), h2.1 a ha, hy _ _ h1 ?_⟩
        constructor
        · intro e q
          rcases q with q | q
          · rw [q] at e; exact h2.2.2 e
          · exact cl.all h2.2.2 q e
        · intro q
          by_cases e : ai2 27 a = 0
          · exact e
          · exact absurd (h2.2.1 a ha e) q
      · refine lp2_c 36 (by omega) (fun m ai' => (∀ q, q ≠ 27 → ai' q = ai q) ∧ Ub ai b (ai' 27) ∧ (∀ i, i < 6 → ¬ ai2 27 i = 0 → ¬ ai' 27 i = 0) ∧ (∀ n, n < m → ¬ ai 8 n = 0 → ¬ ai2 27 (n / 6) = 0 → ¬ ai' 27 (n % 6) = 0)) (fun L3 m ai3 hm hI3 hL3 => ?_) 0 ai2 (by omega) ⟨h1, h2, fun _ _ h => h, fun n h => absurd h (Nat.not_lt_zero _)⟩
        obtain ⟨g1, g2, g3, g4⟩ := hI3
        refine br_n (n := 36) (by omega) (by omega) (fun h36 => ?_) (fun h36 => ?_)
        · unfold zw_nm
          rw [nI_p1]
          refine hL _ h6 ⟨g1, g2, ?_⟩
          have gg : ∀ x y, Ed ai x y → ¬ ai2 27 x = 0 → ¬ ai3 27 y = 0 := fun x y ed e => by
            have q := g4 (6 * x + y) (by have := ed.1; have := ed.2.1; omega) ed.2.2
            rw [show (6 * x + y) / 6 = x by have := ed.2.1; omega, show (6 * x + y) % 6 = y by have := ed.2.1; omega] at q
            exact q e
          rcases h3 with q | q
          · refine Or.inl (fun x y ed e => ?_)
            have rb : Rh ai b y := by
              rcases g2.2.1 x ed.1 e with z | z
              · rw [z] at ed; exact Relation.TransGen.single ed
              · exact Relation.TransGen.tail z ed
            exact g3 y ed.2.1 (q.all h2.2.2 rb)
          · by_cases cl : Uc ai (ai2 27)
            · refine Or.inl (fun x y ed e => ?_)
              have rb : Rh ai b y := by
                rcases g2.2.1 x ed.1 e with z | z
                · rw [z] at ed; exact Relation.TransGen.single ed
                · exact Relation.TransGen.tail z ed
              exact g3 y ed.2.1 (cl.all h2.2.2 rb)
            · refine Or.inr ?_
              have : ∃ x y, Ed ai x y ∧ ¬ ai2 27 x = 0 ∧ ai2 27 y = 0 := by
                refine Classical.byContradiction (fun z => cl (fun x y ed e e2 => z ⟨x, y, ed, e, e2⟩))
              obtain ⟨x, y, ed, e1, e2⟩ := this
              have := cn_lt (f := ai2 27) (g := ai3 27) 6 g3 ed.2.1 e2 (gg x y ed e1)
              omega
        · obtain ⟨d1, d2⟩ := d36 m h36
          simp only [zw_nm]
          rw [d2, d1, nC (show m % 6 < 2147483648 by omega), nC (show m / 6 < 2147483648 by omega), nC (show m < 2147483648 by omega), nI_p1]
          refine ⟨by decide, by decide, vp_in_nI (by omega) (by omega), jn1_o (fun y => (y = 1 ∧ (¬ ai3 27 (m % 6) = 0 ∨ (¬ ai 8 m = 0 ∧ ¬ ai3 27 (m / 6) = 0))) ∨ (y = 0 ∧ ai3 27 (m % 6) = 0 ∧ ¬ (¬ ai 8 m = 0 ∧ ¬ ai3 27 (m / 6) = 0))) (fun y hY => ?_) (fun J hJ => ?_)⟩
          · refine ⟨vp_in_nI (by omega) (by omega), hL3 _ h36 ⟨fun q hq => by rw [va_n _ _ hq]; exact g1 q hq, ?_⟩⟩
            rw [va_s]
            have new : ∀ i, i < 6 → ¬ ai3 27 i = 0 → ¬ upd (ai3 27) (m % 6) (vp_nar .boolean y) i = 0 := fun i hi e => by
              by_cases q : i = m % 6
              · subst q
                rw [pk_us]
                rcases hY with ⟨rfl, z⟩ | ⟨rfl, z, z2⟩
                · rw [nar1]; decide
                · exact absurd z e
              · rw [pk_un q]; exact e
            refine ⟨⟨fun i hi => ?_, fun i hi e => ?_, new b hb g2.2.2⟩, fun i hi e => new i hi (g3 i hi e), fun n hn e1 e2 => ?_⟩
            · by_cases q : i = m % 6
              · rw [q, pk_us]
                rcases hY with ⟨rfl, z⟩ | ⟨rfl, z, z2⟩
                · exact Or.inr nar1
                · exact Or.inl nar0
              · rw [pk_un q]; exact g2.1 i hi
            · by_cases q : i = m % 6
              · rw [q, pk_us] at e
                rcases hY with ⟨rfl, z⟩ | ⟨rfl, z, z2⟩
                · rw [q]
                  rcases z with z | ⟨z1, z2⟩
                  · exact g2.2.1 _ (by omega) z
                  · have ed : Ed ai (m / 6) (m % 6) := ⟨by omega, by omega, by rw [show 6 * (m / 6) + m % 6 = m by omega]; exact z1⟩
                    rcases g2.2.1 _ (show m / 6 < 6 by omega) z2 with w | w
                    · rw [w] at ed; exact Or.inr (Relation.TransGen.single ed)
                    · exact Or.inr (Relation.TransGen.tail w ed)
                · exact absurd nar0 e
              · rw [pk_un q] at e; exact g2.2.1 i hi e
            · by_cases q : n = m
              · subst q
                rw [pk_us]
                rcases hY with ⟨rfl, z⟩ | ⟨rfl, z, z2⟩
                · rw [nar1]; decide
                · exact absurd ⟨e1, g3 _ (by omega) e2⟩ z2
              · exact new _ (by omega) (g4 n (by omega) e1 e2)
          · refine jn0_o (¬ ai3 27 (m % 6) = 0 ∨ (¬ ai 8 m = 0 ∧ ¬ ai3 27 (m / 6) = 0)) (fun z => hJ 1 (Or.inl ⟨rfl, z⟩)) (fun J2 hJ2 => ?_)
            refine br_i Iff.rfl (fun e => ⟨vp_in_nI (by omega) (by omega), ?_⟩) (fun e => hJ2 (Or.inl e))
            refine jn0_o (¬ (¬ ai 8 m = 0 ∧ ¬ ai3 27 (m / 6) = 0)) (fun z => hJ 0 (Or.inr ⟨rfl, e, z⟩)) (fun J3 hJ3 => ?_)
            rw [g1 8 (by decide)]
            refine br_i Iff.rfl (fun e2 => hJ3 (fun z => z.1 e2)) (fun e2 => ⟨by decide, vp_in_nI (by omega) (by omega), br_i Iff.rfl (fun e3 => hJ3 (fun z => z.2 e3)) (fun e3 => hJ2 (Or.inr ⟨e2, e3⟩))⟩)
    · rw [hI.2 i hi]
      by_cases q : i = b
      · rw [if_pos q]; exact Or.inr rfl
      · rw [if_neg q]; exact Or.inl rfl
    · rw [hI.2 i hi] at e
      by_cases q : i = b
      · exact Or.inl q
      · rw [if_neg q] at e; exact absurd rfl e
    · rw [hI.2 b hb, if_pos rfl]; decide
    · have := cn_lt (f := fun _ => 0) (g := ai1 27) (y := b) 6 (fun i _ h => absurd rfl h) hb rfl (by rw [hI.2 b hb, if_pos rfl]; decide)
      omega
  · refine jn1_o (fun y => y = if k = b then 1 else 0) (fun y hY => ?_) (fun J hJ => br_i (show nI k = nI b ↔ k = b from ⟨nI_inj (by omega) (by omega), fun h => by rw [h]⟩) (fun e => hJ 1 (by rw [if_pos e])) (fun e => hJ 0 (by rw [if_neg e])))
    simp only [zw_nm]
    rw [nC (by omega), nI_p1]
    refine ⟨vp_in_nI (by omega) (by omega), hL _ h6 ⟨fun q hq => by rw [va_n _ _ hq]; exact hI.1 q hq, fun i hi => ?_⟩⟩
    rw [va_s]
    by_cases q : i = k
    · rw [q, pk_us, hY]
      by_cases z : k = b
      · rw [if_pos z, nar1]
      · rw [if_neg z, nar0]
    · rw [pk_un q]; exact hI.2 i (by omega)
theorem Gi_mustFollow_s {K : Int32 → Prop} {a b : Nat} (ha : a < 6) (hb : b < 32) (h : K (bI (bt (ai 39 a) b = true))) : Gi_mustFollow_w fi fl ai al (nI a) (nI b) K := by
  unfold Gi_mustFollow_w
  rw [nC (by omega)]
  exact ⟨vp_in_nI (by omega) (by omega), SS_hasBit_s hb ⟨bI_bool _, h⟩⟩
theorem Gi_follow_s {K : (Nat → Nat → Int32) → Prop} {a b : Nat} (hp : fi 7 = nI p) (hp6 : p ≤ 6) (ha : a < p) (hb : b < p)
    (hy : ∀ ai', (∀ q, q ≠ 39 → ai' q = ai q) → (∀ y, p ≤ y → ai' 39 y = ai 39 y) → (∀ y, y < p → ∀ i, i < 32 → (bt (ai' 39 y) i = true ↔ (bt (ai 39 y) i = true ∨ ((y = b ∨ bt (ai 39 y) b = true) ∧ (bt (ai 39 a) i = true ∨ i = a))))) → K ai') : Gi_follow_w fi fl ai al (nI a) (nI b) K := by
  unfold Gi_follow_w
  rw [hp, nC (by omega)]
  refine ⟨vp_in_nI (by omega) (by omega), ?_⟩
  unfold zw_nm
  refine lp2_c p (by omega) (fun k ai' => (∀ q, q ≠ 39 → ai' q = ai q) ∧ (∀ y, k ≤ y → ai' 39 y = ai 39 y) ∧ (∀ y, y < k → ∀ i, i < 32 → (bt (ai' 39 y) i = true ↔ (bt (ai 39 y) i = true ∨ ((y = b ∨ bt (ai 39 y) b = true) ∧ (bt (ai 39 a) i = true ∨ i = a)))))) (fun L k ai1 hk hI hL => ?_) 0 ai (by omega) ⟨fun _ _ => rfl, fun _ _ => rfl, fun y h => absurd h (Nat.not_lt_zero _)⟩
  obtain ⟨h1, h2, h3⟩ := hI
  refine br_n (by omega) (by omega) (fun q => hy ai1 h1 (fun y hy2 => h2 y (by omega)) (fun y hy2 => h3 y (by omega))) (fun q => ?_)
  refine jn1_o (fun ai' => (∀ q, q ≠ 39 → ai' q = ai q) ∧ (∀ y, k + 1 ≤ y → ai' 39 y = ai 39 y) ∧ (∀ y, y < k + 1 → ∀ i, i < 32 → (bt (ai' 39 y) i = true ↔ (bt (ai 39 y) i = true ∨ ((y = b ∨ bt (ai 39 y) b = true) ∧ (bt (ai 39 a) i = true ∨ i = a)))))) (fun ai' hY => ?_) (fun J hJ => ?_)
  · rw [nI_p1]; exact hL ai' q hY
  · refine jn0_o (k = b ∨ bt (ai 39 k) b = true) (fun hY => ?_) (fun J2 hJ2 => ?_)
    · rw [nC (by omega)]
      refine ⟨vp_in_nI (by omega) (by omega), vp_in_nI (by omega) (by omega), hJ _ ⟨fun q hq => by rw [va_n _ _ hq]; exact h1 q hq, fun y hy2 => ?_, fun y hy2 i hi => ?_⟩⟩
      · rw [va_s, pk_un (show y ≠ k by omega)]; exact h2 y (by omega)
      · rw [va_s]
        by_cases z : y = k
        · subst z
          rw [pk_us, h2 y (by omega), b_or, b_or, b_bit (by omega) hi, Bool.or_eq_true, Bool.or_eq_true, decide_eq_true_iff]
          constructor
          · rintro (w | w)
            · exact Or.inl w
            · exact Or.inr ⟨hY, w⟩
          · rintro (w | w)
            · exact Or.inl w
            · exact Or.inr w.2
        · rw [pk_un z]; exact h3 y (by omega) i hi
    · refine br_i (show nI k = nI b ↔ k = b from ⟨nI_inj (by omega) (by omega), fun h => by rw [h]⟩) (fun e => hJ2 (Or.inl e)) (fun e => Gi_mustFollow_s (by omega) (by omega) ?_)
      rw [h2 k (by omega)]
      refine br_b (fun e2 => hJ2 (Or.inr e2)) (fun e2 => hJ _ ⟨h1, fun y hy2 => h2 y (by omega), fun y hy2 i hi => ?_⟩)
      by_cases z : y = k
      · subst z
        rw [h2 y (by omega)]
        exact ⟨fun w => Or.inl w, fun w => by
          rcases w with w | w
          · exact w
          · rcases w.1 with u | u
            · exact absurd u e
            · exact absurd u e2⟩
      · exact h3 y (by omega) i hi
theorem SS_after_s {K : Int32 → (Nat → Nat → Int32) → Prop} (hp : fi 7 = nI p) (hp6 : p ≤ 6) (h4 : fi 4 = nI nd) (h6 : nd ≤ 6) (un : ∀ j k, j < nd → k < nd → ai 10 j = ai 10 k → j = k)
    (hy : ∀ a b, a < p → b < p → v1 = nI a → v2 = nI b → a ≠ b → ¬ bt (ai 39 a) b = true → (∀ k, k < nd → ai 10 k = nI b → ∃ j, j < k ∧ ai 10 j = nI a) → ∀ ai', (∀ q, q ≠ 39 → ai' q = ai q) → (∀ y, p ≤ y → ai' 39 y = ai 39 y) → (∀ y, y < p → ∀ i, i < 32 → (bt (ai' 39 y) i = true ↔ (bt (ai 39 y) i = true ∨ ((y = b ∨ bt (ai 39 y) b = true) ∧ (bt (ai 39 a) i = true ∨ i = a))))) → K 1 ai')
    (hno : (∀ a b, a < p → b < p → v1 = nI a → v2 = nI b → ¬ (a ≠ b ∧ ¬ bt (ai 39 a) b = true ∧ (∀ k, k < nd → ai 10 k = nI b → ∃ j, j < k ∧ ai 10 j = nI a))) → K 0 ai) : SS_after_w fi fl ai al v1 v2 K := by
  unfold SS_after_w
  refine Gi_hasPart_s hp hp6 (br_b (fun e1 => ?_) (fun e1 => hno (fun a b ha hb ea eb => absurd (by rw [ea]; exact isP_nI ha (by omega)) e1)))
  refine Gi_hasPart_s hp hp6 (br_b (fun e2 => ?_) (fun e2 => hno (fun a b ha hb ea eb => absurd (by rw [eb]; exact isP_nI hb (by omega)) e2)))
  obtain ⟨a, ha, ha2, rfl⟩ := isP_of e1
  obtain ⟨b, hb, hb2, rfl⟩ := isP_of e2
  have no : ¬ (a ≠ b ∧ ¬ bt (ai 39 a) b = true ∧ (∀ k, k < nd → ai 10 k = nI b → ∃ j, j < k ∧ ai 10 j = nI a)) → K 0 ai := fun q => hno (fun a' b' h1 h2 h3 h5 => by
    obtain rfl : a = a' := nI_inj (by omega) (by omega) h3
    obtain rfl : b = b' := nI_inj (by omega) (by omega) h5
    exact q)
  refine br_i (show nI a = nI b ↔ a = b from ⟨nI_inj (by omega) (by omega), fun h => by rw [h]⟩) (fun e => no (fun q => q.1 e)) (fun e3 => ?_)
  refine Gi_mustFollow_s (by omega) (by omega) (br_b (fun e4 => no (fun q => q.2.1 e4)) (fun e4 => ?_))
  have fol : (∀ k, k < nd → ai 10 k = nI b → ∃ j, j < k ∧ ai 10 j = nI a) → Gi_follow_w fi fl ai al (nI a) (nI b) (fun ai' => K 1 ai') := fun hD => Gi_follow_s hp hp6 ha hb (fun ai' q1 q2 q3 => hy a b ha hb rfl rfl e3 e4 hD ai' q1 q2 q3)
  refine Pl_placeOf_s h4 h6 (fun j hj ej _ => ?_) (fun ej => ?_)
  · refine Pl_placeOf_s h4 h6 (fun k hk ek _ => ?_) (fun ek => ?_)
    · refine jn0_o (∀ k, k < nd → ai 10 k = nI b → ∃ j, j < k ∧ ai 10 j = nI a) fol (fun J hJ => ?_)
      refine br_i (nI_lt' (c := 0) (m := 0) rfl (by omega) (by omega)) (fun q => absurd q (Nat.not_lt_zero _)) (fun _ => ?_)
      refine br_i (nI_lt' (c := 0) (m := 0) rfl (by omega) (by omega)) (fun q => absurd q (Nat.not_lt_zero _)) (fun _ => ?_)
      refine br_i (le_nI rfl (by omega) (by omega)) (fun q => hJ (fun k2 hk2 ek2 => ?_)) (fun q => no (fun z => ?_))
      · obtain rfl : k2 = k := un k2 k hk2 hk (ek2.trans ek.symm)
        refine ⟨j, ?_, ej⟩
        have : j ≠ k2 := fun z => e3 (nI_inj (by omega) (by omega) (by rw [← ej, z, ek]))
        omega
      · obtain ⟨j2, z1, z2⟩ := z.2.2 k hk ek
        obtain rfl : j2 = j := un j2 j (by omega) hj (z2.trans ej.symm)
        omega
    · refine jn0_o (∀ k, k < nd → ai 10 k = nI b → ∃ j, j < k ∧ ai 10 j = nI a) fol (fun J hJ => ?_)
      exact br_i (Iff.refl _) (fun _ => hJ (fun k hk e => absurd e (ek k hk))) (fun q => absurd (by decide) q)
  · refine Pl_placeOf_s h4 h6 (fun k hk ek _ => ?_) (fun ek => ?_)
    · refine jn0_o (∀ k, k < nd → ai 10 k = nI b → ∃ j, j < k ∧ ai 10 j = nI a) fol (fun J hJ => ?_)
      refine br_i (nI_lt' (c := 0) (m := 0) rfl (by omega) (by omega)) (fun q => absurd q (Nat.not_lt_zero _)) (fun _ => ?_)
      refine br_i (Iff.refl _) (fun _ => no (fun z => ?_)) (fun q => absurd (by decide) q)
      obtain ⟨j2, z1, z2⟩ := z.2.2 k hk ek
      exact ej j2 (by omega) z2
    · refine jn0_o (∀ k, k < nd → ai 10 k = nI b → ∃ j, j < k ∧ ai 10 j = nI a) fol (fun J hJ => ?_)
      exact br_i (Iff.refl _) (fun _ => hJ (fun k hk e => absurd e (ek k hk))) (fun q => absurd (by decide) q)
theorem Mo_after_s {K : Int32 → (Nat → Nat → Int32) → Prop} (hp : fi 0 = nI p) (hp6 : p ≤ 6) (h3 : fi 3 = nI na) (h40 : na ≤ 40) (un : ∀ j k, j < na → k < na → ai 10 j = 0 → ai 10 k = 0 → ai 11 j = ai 11 k → j = k)
    (hy : ∀ a b, a < p → b < p → v1 = nI a → v2 = nI b → a ≠ b → ¬ Rh ai b a → (∀ k, k < na → ai 10 k = 0 → ai 11 k = nI b → ∃ j, j < k ∧ ai 10 j = 0 ∧ ai 11 j = nI a) → ∀ ai', (∀ q, q ≠ 27 → ai' q = ai q) → K 1 (va_up ai' 8 (upd (ai 8) (6 * a + b) 1)))
    (hno : (∀ a b, a < p → b < p → v1 = nI a → v2 = nI b → ¬ (a ≠ b ∧ ¬ Rh ai b a ∧ (∀ k, k < na → ai 10 k = 0 → ai 11 k = nI b → ∃ j, j < k ∧ ai 10 j = 0 ∧ ai 11 j = nI a))) → ∀ ai', (∀ q, q ≠ 27 → ai' q = ai q) → K 0 ai') : Mo_after_w fi fl ai al v1 v2 K := by
  unfold Mo_after_w
  refine Mo_isPart_s hp hp6 (br_b (fun e1 => ?_) (fun e1 => hno (fun a b ha hb ea eb => absurd (by rw [ea]; exact isP_nI ha (by omega)) e1) _ (fun _ _ => rfl)))
  refine Mo_isPart_s hp hp6 (br_b (fun e2 => ?_) (fun e2 => hno (fun a b ha hb ea eb => absurd (by rw [eb]; exact isP_nI hb (by omega)) e2) _ (fun _ _ => rfl)))
  obtain ⟨a, ha, ha2, rfl⟩ := isP_of e1
  obtain ⟨b, hb, hb2, rfl⟩ := isP_of e2
  have no : ¬ (a ≠ b ∧ ¬ Rh ai b a ∧ (∀ k, k < na → ai 10 k = 0 → ai 11 k = nI b → ∃ j, j < k ∧ ai 10 j = 0 ∧ ai 11 j = nI a)) → ∀ ai', (∀ q, q ≠ 27 → ai' q = ai q) → K 0 ai' := fun q => hno (fun a' b' h1 h2 h3 h5 => by
    obtain rfl : a = a' := nI_inj (by omega) (by omega) h3
    obtain rfl : b = b' := nI_inj (by omega) (by omega) h5
    exact q)
  refine br_i (show nI a = nI b ↔ a = b from ⟨nI_inj (by omega) (by omega), fun h => by rw [h]⟩) (fun e => no (fun q => q.1 e) _ (fun _ _ => rfl)) (fun e3 => ?_)
  refine Mo_comesAfter_s (by omega) (by omega) (fun c ai1 f1 hc => ?_)
  refine br_i hc (fun e4 => ?_) (fun e4 => no (fun q => e4 (fun z => by rcases z with z | z; exact e3 z; exact q.2.1 z)) _ f1)
  have e4 : ¬ Rh ai b a := fun z => e4 (Or.inr z)
  have f10 := f1 10 (by decide)
  have f11 := f1 11 (by decide)
  have fol : (∀ k, k < na → ai 10 k = 0 → ai 11 k = nI b → ∃ j, j < k ∧ ai 10 j = 0 ∧ ai 11 j = nI a) → vp_in ((6 : Int32) * nI a + nI b) 36 ∧ zw_nm (va_up ai1 8 (upd (ai1 8) ((6 : Int32) * nI a + nI b).toNatClampNeg (vp_nar .boolean (1 : Int32)))) (fun ai' => K 1 ai') := fun hD => by
    rw [xi6, nC (by omega), nar1, f1 8 (by decide)]
    exact ⟨vp_in_nI (by omega) (by omega), hy a b ha hb rfl rfl e3 e4 hD ai1 f1⟩
  refine Mo_actOf_s h3 h40 (fun j hj ej1 ej2 _ => ?_) (fun ej => ?_)
  · rw [f10] at ej1
    rw [f11] at ej2
    refine Mo_actOf_s h3 h40 (fun k hk ek1 ek2 _ => ?_) (fun ek => ?_)
    · rw [f10] at ek1
      rw [f11] at ek2
      refine jn0_o (∀ k, k < na → ai 10 k = 0 → ai 11 k = nI b → ∃ j, j < k ∧ ai 10 j = 0 ∧ ai 11 j = nI a) fol (fun J hJ => ?_)
      refine br_i (nI_lt' (c := 0) (m := 0) rfl (by omega) (by omega)) (fun q => absurd q (Nat.not_lt_zero _)) (fun _ => ?_)
      refine br_i (nI_lt' (c := 0) (m := 0) rfl (by omega) (by omega)) (fun q => absurd q (Nat.not_lt_zero _)) (fun _ => ?_)
      refine br_i (le_nI rfl (by omega) (by omega)) (fun q => hJ (fun k2 hk2 ek2' ek3 => ?_)) (fun q => no (fun z => ?_) _ f1)
      · obtain rfl : k2 = k := un k2 k hk2 hk ek2' ek1 (ek3.trans ek2.symm)
        refine ⟨j, ?_, ej1, ej2⟩
        have : j ≠ k2 := fun z => e3 (nI_inj (by omega) (by omega) (by rw [← ej2, z, ek2]))
        omega
      · obtain ⟨j2, z1, z2, z3⟩ := z.2.2 k hk ek1 ek2
        obtain rfl : j2 = j := un j2 j (by omega) hj z2 ej1 (z3.trans ej2.symm)
        omega
    · rw [f10, f11] at ek
      refine jn0_o (∀ k, k < na → ai 10 k = 0 → ai 11 k = nI b → ∃ j, j < k ∧ ai 10 j = 0 ∧ ai 11 j = nI a) fol (fun J hJ => ?_)
      exact br_i (Iff.refl _) (fun _ => hJ (fun k hk e e' => absurd ⟨e, e'⟩ (ek k hk))) (fun q => absurd (by decide) q)
  · rw [f10, f11] at ej
    refine Mo_actOf_s h3 h40 (fun k hk ek1 ek2 _ => ?_) (fun ek => ?_)
    · rw [f10] at ek1
      rw [f11] at ek2
      refine jn0_o (∀ k, k < na → ai 10 k = 0 → ai 11 k = nI b → ∃ j, j < k ∧ ai 10 j = 0 ∧ ai 11 j = nI a) fol (fun J hJ => ?_)
      refine br_i (nI_lt' (c := 0) (m := 0) rfl (by omega) (by omega)) (fun q => absurd q (Nat.not_lt_zero _)) (fun _ => ?_)
      refine br_i (Iff.refl _) (fun _ => no (fun z => ?_) _ f1) (fun q => absurd (by decide) q)
      obtain ⟨j2, z1, z2⟩ := z.2.2 k hk ek1 ek2
      exact ej j2 (by omega) z2
    · rw [f10, f11] at ek
      refine jn0_o (∀ k, k < na → ai 10 k = 0 → ai 11 k = nI b → ∃ j, j < k ∧ ai 10 j = 0 ∧ ai 11 j = nI a) fol (fun J hJ => ?_)
      exact br_i (Iff.refl _) (fun _ => hJ (fun k hk e e' => absurd ⟨e, e'⟩ (ek k hk))) (fun q => absurd (by decide) q)
end AF
/-- one edge more -/
theorem Rh.more {bi : Nat → Nat → Int32} {bi' : Nat → Nat → Int32} {a b : Nat} (he : ∀ x y, Ed bi' x y ↔ Ed bi x y ∨ (x = a ∧ y = b)) (x y : Nat) : Rh bi' x y ↔ Rh bi x y ∨ ((x = a ∨ Rh bi x a) ∧ (y = b ∨ Rh bi b y)) := by
  constructor
  · intro h
    unfold Rh at h
    induction h with
    | single e =>
      rcases (he _ _).mp e with q | ⟨q1, q2⟩
      · exact Or.inl (Relation.TransGen.single q)
      · exact Or.inr ⟨Or.inl q1, Or.inl q2⟩
    | tail _ e ih =>
      rcases (he _ _).mp e with q | ⟨q1, q2⟩
      · rcases ih with i | ⟨i1, i2⟩
        · exact Or.inl (Relation.TransGen.tail i q)
        · refine Or.inr ⟨i1, Or.inr ?_⟩
          rcases i2 with i2 | i2
          · rw [i2] at q; exact Relation.TransGen.single q
          · exact Relation.TransGen.tail i2 q
      · rcases ih with i | ⟨i1, i2⟩
        · rw [q1] at i; exact Or.inr ⟨Or.inr i, Or.inl q2⟩
        · exact Or.inr ⟨i1, Or.inl q2⟩
  · have up : ∀ {u v}, Rh bi u v → Rh bi' u v := fun {u v} h => by
      unfold Rh at h
      induction h with
      | single e => exact Relation.TransGen.single ((he _ _).mpr (Or.inl e))
      | tail _ e ih => exact Relation.TransGen.tail ih ((he _ _).mpr (Or.inl e))
    have eab : Rh bi' a b := Relation.TransGen.single ((he a b).mpr (Or.inr ⟨rfl, rfl⟩))
    rintro (h | ⟨h1, h2⟩)
    · exact up h
    · have s1 : Rh bi' x b := by
        rcases h1 with h1 | h1
        · rw [h1]; exact eab
        · exact Relation.TransGen.trans (up h1) eab
      rcases h2 with h2 | h2
      · rw [h2]; exact s1
      · exact Relation.TransGen.trans s1 (up h2)
theorem s_after : st_after Rl := by
  intro fi fl ai al gi gl bi bl v1 v2 hR
  obtain ⟨p, nc, ns, na, nd, nr, no, hN⟩ := Rl.e hR
  obtain ⟨hn, hC, hg, hk, hd, ha, hw, hf, he, ho, hr, hq⟩ := id hN
  obtain ⟨n1, n2, n3, n4, n5, n6, n7, n8⟩ := id hn
  obtain ⟨c7, g0, c1, g1, c2, g2, c3, g3, c4, c6, g6, c11, g7, c5, c0, c0r⟩ := id hC
  have un : ∀ j k, j < na → k < na → bi 10 j = 0 → bi 10 k = 0 → bi 11 j = bi 11 k → j = k := fun j k hj hk2 e1 e2 e3 => by
    rw [(ha.1 j hj).1] at e1
    rw [(ha.1 k hk2).1] at e2
    rw [(ha.1 j hj).2.1, (ha.1 k hk2).2.1] at e3
    have lj := cnt_lt (kd := ai 6) hj e1
    have lk := cnt_lt (kd := ai 6) hk2 e2
    have := hw.2.2.1 (cnt (ai 6) j) (cnt (ai 6) k) (by rw [hw.1]; exact lj) (by rw [hw.1]; exact lk) (by rw [(hw.2.1 j hj e1).1, (hw.2.1 k hk2 e2).1, e3])
    rcases Nat.lt_trichotomy j k with q | q | q
    · have := cnt_lt (kd := ai 6) q e1; omega
    · exact q
    · have := cnt_lt (kd := ai 6) q e2; omega
  have same : ∀ a b, (∀ k, k < nd → ai 10 k = nI b → ∃ j, j < k ∧ ai 10 j = nI a) ↔ (∀ k, k < na → bi 10 k = 0 → bi 11 k = nI b → ∃ j, j < k ∧ bi 10 j = 0 ∧ bi 11 j = nI a) := fun a b => by
    constructor
    · intro h k hk2 e1 e2
      rw [(ha.1 k hk2).1] at e1
      rw [(ha.1 k hk2).2.1, ← (hw.2.1 k hk2 e1).1] at e2
      have lk := cnt_lt (kd := ai 6) hk2 e1
      obtain ⟨j, z1, z2⟩ := h _ (by rw [hw.1]; exact lk) e2
      obtain ⟨j2, y1, y2, y3⟩ := cnt_at k z1
      refine ⟨j2, y1, ?_, ?_⟩
      · rw [(ha.1 j2 (by omega)).1]; exact y2
      · rw [(ha.1 j2 (by omega)).2.1, ← (hw.2.1 j2 (by omega) y2).1, y3]; exact z2
    · intro h k hk2 e
      rw [hw.1] at hk2
      obtain ⟨k2, y1, y2, y3⟩ := cnt_at na hk2
      obtain ⟨j, z1, z2, z3⟩ := h k2 y1 (by rw [(ha.1 k2 y1).1]; exact y2) (by rw [(ha.1 k2 y1).2.1, ← (hw.2.1 k2 y1 y2).1, y3]; exact e)
      rw [(ha.1 j (by omega)).1] at z2
      rw [(ha.1 j (by omega)).2.1, ← (hw.2.1 j (by omega) z2).1] at z3
      exact ⟨cnt (ai 6) j, by rw [← y3]; exact cnt_lt z1 z2, z3⟩
  have fr : ∀ bi', (∀ q, q ≠ 27 → bi' q = bi q) → Km gi bi bl gi bi' bl := fun bi' h => ⟨fun _ _ => rfl, fun q hq2 => h q (by omega), rfl⟩
  have both : ∀ a b, a < p → b < p → ((a ≠ b ∧ ¬ bt (ai 39 a) b = true ∧ (∀ k, k < nd → ai 10 k = nI b → ∃ j, j < k ∧ ai 10 j = nI a)) ↔ (a ≠ b ∧ ¬ Rh bi b a ∧ (∀ k, k < na → bi 10 k = 0 → bi 11 k = nI b → ∃ j, j < k ∧ bi 10 j = 0 ∧ bi 11 j = nI a))) := fun a b h1 h2 => by
    rw [same a b, hf.2.2.1 b a (by omega) (by omega)]
  refine SS_after_s c7 n2 c4 n6 hw.2.2.1 (fun a b h1 h2 ea eb ne nb hD ai' q1 q2 q3 => ?_) (fun h => ?_)
  · refine Mo_after_s g0 n2 g3 n5 un (fun a' b' h1' h2' ea' eb' _ nr' _ bi' f1 => ?_) (fun h => absurd ((both a b h1 h2).mp ⟨ne, nb, hD⟩) (h a b h1 h2 ea eb))
    obtain rfl : a = a' := nI_inj (by omega) (by omega) (ea.symm.trans ea')
    obtain rfl : b = b' := nI_inj (by omega) (by omega) (eb.symm.trans eb')
    have hed : ∀ x y, Ed (va_up bi' 8 (upd (bi 8) (6 * a + b) 1)) x y ↔ Ed bi x y ∨ (x = a ∧ y = b) := fun x y => by
      unfold Ed
      rw [va_s]
      constructor
      · rintro ⟨z1, z2, z3⟩
        by_cases q : 6 * x + y = 6 * a + b
        · exact Or.inr ⟨by omega, by omega⟩
        · rw [pk_un q] at z3; exact Or.inl ⟨z1, z2, z3⟩
      · rintro (⟨z1, z2, z3⟩ | ⟨z1, z2⟩)
        · refine ⟨z1, z2, ?_⟩
          by_cases q : 6 * x + y = 6 * a + b
          · rw [q, pk_us]; decide
          · rw [pk_un q]; exact z3
        · rw [z1, z2, pk_us]; exact ⟨by omega, by omega, by decide⟩
    have B : ∀ q, q ≠ 27 → q ≠ 8 → va_up bi' 8 (upd (bi 8) (6 * a + b) 1) q = bi q := fun q z1 z2 => by rw [va_n _ _ z2]; exact f1 q z1
    refine ⟨rfl, Rl.i p nc ns na nd nr no ⟨hn, hC, hg.c (fun q _ _ => q1 q (by omega)) (fun q _ _ => B q (by omega) (by omega)), hk.c (q1 2 (by omega)) (q1 3 (by omega)) (B 6 (by omega) (by omega)) (B 7 (by omega) (by omega)), hd.c (q1 5 (by omega)) (B 9 (by omega) (by omega)), ha.c (q1 6 (by omega)) (q1 7 (by omega)) (q1 8 (by omega)) (q1 9 (by omega)) (B 10 (by omega) (by omega)) (B 11 (by omega) (by omega)) (B 12 (by omega) (by omega)) (B 13 (by omega) (by omega)), hw.c (q1 6 (by omega)) (q1 7 (by omega)) (q1 9 (by omega)) (q1 10 (by omega)) (q1 11 (by omega)), ⟨fun k hk2 => ?_, fun x y ed => ?_, fun x y hx hy => ?_, fun y i hy hi => ?_, fun x h => ?_, fun x y ed k hk2 e => ?_⟩, he.c rfl (q1 5 (by omega)), ho, hr.c (q1 13 (by omega)) (q1 14 (by omega)) (q1 15 (by omega)) (q1 16 (by omega)) (B 15 (by omega) (by omega)) (B 16 (by omega) (by omega)) (B 17 (by omega) (by omega)) (B 18 (by omega) (by omega)), hq.c (q1 60 (by omega)) (B 19 (by omega) (by omega))⟩⟩
    · rw [va_s]
      by_cases q : k = 6 * a + b
      · rw [q, pk_us]; exact Or.inr rfl
      · rw [pk_un q]; exact hf.1 k hk2
    · rcases (hed x y).mp ed with q | ⟨rfl, rfl⟩
      · exact hf.2.1 x y q
      · exact ⟨h1, h2, ne⟩
    · rw [Rh.more hed x y, ← hf.2.2.1 x y hx hy]
      have pl : ∀ {u v}, Rh bi u v → v < p := fun {u v} h => by
        unfold Rh at h
        cases h with
        | single e => exact (hf.2.1 _ _ e).2.1
        | tail _ e => exact (hf.2.1 _ _ e).2.1
      rcases Nat.lt_or_ge y p with yp | yp
      · rw [q3 y yp x (by omega), hf.2.2.1 b y (by omega) hy, hf.2.2.1 x a hx (by omega)]
        constructor
        · rintro (z | ⟨z1, z2⟩)
          · exact Or.inl z
          · exact Or.inr ⟨z2.symm, z1⟩
        · rintro (z | ⟨z1, z2⟩)
          · exact Or.inl z
          · exact Or.inr ⟨z2, z1.symm⟩
      · rw [q2 y yp]
        refine ⟨Or.inl, ?_⟩
        rintro (z | ⟨z1, z2⟩)
        · exact z
        · rcases z2 with z2 | z2
          · omega
          · have := pl z2; omega
    · rcases Nat.lt_or_ge y p with yp | yp
      · rcases Nat.lt_or_ge i 32 with i32 | i32
        · have := q3 y yp i i32
          rw [hf.2.2.2.1 y i hy hi, hf.2.2.2.1 a i (by omega) hi] at this
          cases z : bt (ai' 39 y) i with
          | false => rfl
          | true =>
            rcases this.mp z with w | ⟨_, w | w⟩
            · cases w
            · cases w
            · omega
        · exact b_big i32
      · rw [q2 y yp]; exact hf.2.2.2.1 y i hy hi
    · rcases (Rh.more hed x x).mp h with q | ⟨q4, q5⟩
      · exact hf.2.2.2.2.1 x q
      · rcases q4 with rfl | q4
        · rcases q5 with q5 | q5
          · exact ne q5
          · exact nr' q5
        · rcases q5 with rfl | q5
          · exact nr' q4
          · exact nr' (Relation.TransGen.trans q5 q4)
    · rw [q1 10 (by omega)] at e ⊢
      rcases (hed x y).mp ed with q | ⟨rfl, rfl⟩
      · exact hf.2.2.2.2.2 x y q k hk2 e
      · exact hD k hk2 e
  · refine Mo_after_s g0 n2 g3 n5 un (fun a b h1 h2 ea eb ne nb hD bi' f1 => absurd ((both a b h1 h2).mpr ⟨ne, nb, hD⟩) (h a b h1 h2 ea eb)) (fun _ bi' f1 => ?_)
    exact ⟨rfl, Rl.i p nc ns na nd nr no (hN.keep Kc.rf (fr bi' f1))⟩
