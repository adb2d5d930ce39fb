/-! PURE: add -/
theorem php : ∀ (n : Nat) (f : Nat → Nat), (∀ i, i < n + 1 → f i < n) → (∀ i j, i < n + 1 → j < n + 1 → f i = f j → i = j) → False := by
  intro n
  induction n with
  | zero => intro f h _; exact absurd (h 0 (by omega)) (Nat.not_lt_zero _)
  | succ n ih =>
    intro f h hi
    refine ih (fun i => if f i = n then f (n + 1) else f i) (fun i h1 => ?_) (fun i j h1 h2 e => ?_)
    · show (if f i = n then f (n + 1) else f i) < n
      by_cases q : f i = n
      · rw [if_pos q]
        have a1 := h (n + 1) (by omega)
        have a2 : f (n + 1) ≠ n := fun z => by have := hi i (n + 1) (by omega) (by omega) (q.trans z.symm); omega
        omega
      · rw [if_neg q]
        have := h i (by omega)
        omega
    · have e : (if f i = n then f (n + 1) else f i) = (if f j = n then f (n + 1) else f j) := e
      by_cases q : f i = n
      · by_cases r : f j = n
        · exact hi i j (by omega) (by omega) (q.trans r.symm)
        · rw [if_pos q, if_neg r] at e
          have := hi (n + 1) j (by omega) (by omega) e
          omega
      · by_cases r : f j = n
        · rw [if_neg q, if_pos r] at e
          have := hi i (n + 1) (by omega) (by omega) e
          omega
        · rw [if_neg q, if_neg r] at e
          exact hi i j (by omega) (by omega) e
/-- six different parts are all of them -/
theorem php6 {f : Nat → Nat} (h : ∀ i, i < 6 → f i < 6) (hi : ∀ i j, i < 6 → j < 6 → f i = f j → i = j) {y : Nat} (hy : y < 6) : ∃ k, k < 6 ∧ f k = y := by
  by_cases q : ∃ k, k < 6 ∧ f k = y
  · exact q
  · exfalso
    have ne : ∀ i, i < 6 → f i ≠ y := fun i h1 e => q ⟨i, h1, e⟩
    refine php 5 (fun i => if y < f i then f i - 1 else f i) (fun i h1 => ?_) (fun i j h1 h2 e => ?_)
    · show (if y < f i then f i - 1 else f i) < 5
      have a1 := h i (by omega)
      have a2 := ne i (by omega)
      by_cases z : y < f i
      · rw [if_pos z]; omega
      · rw [if_neg z]; omega
    · have e : (if y < f i then f i - 1 else f i) = (if y < f j then f j - 1 else f j) := e
      have a2 := ne i (by omega)
      have a3 := ne j (by omega)
      apply hi i j (by omega) (by omega)
      by_cases z : y < f i
      · rw [if_pos z] at e
        by_cases z2 : y < f j
        · rw [if_pos z2] at e; omega
        · rw [if_neg z2] at e; omega
      · rw [if_neg z] at e
        by_cases z2 : y < f j
        · rw [if_pos z2] at e; omega
        · rw [if_neg z2] at e; omega
theorem b_sub {x y : Int32} : x &&& (y ^^^ (-1)) = 0 ↔ ∀ i, i < 32 → bt x i = true → bt y i = true := by
  constructor
  · intro h i hi hx
    have := congrArg (fun z => bt z i) h
    have this : bt (x &&& (y ^^^ (-1))) i = bt 0 i := this
    rw [b_and, b_xor, b_m1 i hi, b_0, hx] at this
    simpa using this
  · intro h
    apply b_ext
    intro i hi
    rw [b_and, b_xor, b_m1 i hi, b_0]
    cases hx : bt x i with
    | false => simp
    | true => simp [h i hi hx]
section AD
variable {fi : Nat → Int32} {fl : Nat → Int64} {ai : Nat → Nat → Int32} {al : Nat → Nat → Int64} {p nc ns na nd nr no : Nat} {v1 v2 v3 v4 x : Int32}
theorem Pl_partBits_s {K : Int32 → Prop} (h4 : fi 4 = nI nd) (h6 : nd ≤ 6) (hr : ∀ k, k < nd → isP 6 (ai 10 k)) (hy : ∀ b, (∀ x, x < 32 → (bt b x = true ↔ ∃ k, k < nd ∧ ai 10 k = nI x)) → K b) : Pl_partBits_w fi fl ai al K := by
  unfold Pl_partBits_w
  rw [h4]
  refine lp2_d nd (by omega) (fun n b => ∀ x, x < 32 → (bt b x = true ↔ ∃ k, k < n ∧ ai 10 k = nI x)) (fun L n b hn hI hL => ?_) 0 0 (by omega) (fun x _ => by rw [b_0]; exact ⟨fun h => (by cases h), fun ⟨k, h, _⟩ => absurd h (Nat.not_lt_zero _)⟩)
  refine br_n (by omega) (by omega) (fun h => hy b (by rw [show nd = n by omega]; exact hI)) (fun h => ⟨vp_in_nI (by omega) (by omega), ?_⟩)
  simp only [zw_nm]
  rw [nC (by omega), nI_p1]
  refine hL _ h (fun x hx => ?_)
  obtain ⟨w, hw, hw2, ew⟩ := isP_of (hr n h)
  rw [ew, b_or, b_bit (by omega) hx]
  constructor
  · intro q
    rcases Bool.or_eq_true_iff.mp q with q | q
    · obtain ⟨k, h1, h2⟩ := (hI x hx).mp q
      exact ⟨k, by omega, h2⟩
    · exact ⟨n, by omega, by rw [ew, of_decide_eq_true q]⟩
  · rintro ⟨k, h1, h2⟩
    rcases Nat.lt_or_ge k n with q | q
    · rw [(hI x hx).mpr ⟨k, q, h2⟩]; rfl
    · obtain rfl : k = n := by omega
      rw [ew] at h2
      rw [decide_eq_true (nI_inj hw2 (by omega) h2).symm, Bool.or_true]
theorem Gi_mayFollow_s {K : Int32 → Prop} {i : Nat} (hi : i < 6) (h : K (bI (ai 39 i &&& (x ^^^ (-1)) = 0))) : Gi_mayFollow_w fi fl ai al (nI i) x K := by
  unfold Gi_mayFollow_w
  rw [nC (by omega)]
  refine ⟨vp_in_nI (by omega) (by omega), br_i Iff.rfl (fun e => ?_) (fun e => ?_)⟩
  · rw [bI_t e] at h; exact h
  · rw [bI_f e] at h; exact h
theorem SS_add_s {K : Int32 → (Nat → Int32) → (Nat → Nat → Int32) → Prop} (hp : fi 7 = nI p) (hp6 : p ≤ 6) (h2 : fi 2 = nI ns) (h12 : ns ≤ 12) (h3 : fi 3 = nI na) (h40 : na ≤ 40) (h4 : fi 4 = nI nd) (h6 : nd ≤ 6) (hr : ∀ k, k < nd → isP 6 (ai 10 k))
    (hy : ∀ i, i < p → v1 = nI i → 0 < ns → na < 40 → nd < 6 → (∀ k, k < nd → ¬ ai 10 k = nI i) → (∀ y, y < 32 → bt (ai 39 i) y = true → ∃ k, k < nd ∧ ai 10 k = nI y) → K 1 (va_up (va_up fi 4 (nI (nd + 1))) 3 (nI (na + 1))) (ac4 (va_up (va_up ai 10 (upd (ai 10) nd (nI i))) 11 (upd (ai 11) nd (nI (ns - 1)))) 6 na 0 (nI i) 0 (nI (ns - 1))))
    (hno : (∀ i, i < p → v1 = nI i → ¬ ((0 < ns ∧ na < 40) ∧ nd < 6 ∧ (∀ k, k < nd → ¬ ai 10 k = nI i) ∧ (∀ y, y < 32 → bt (ai 39 i) y = true → ∃ k, k < nd ∧ ai 10 k = nI y))) → K 0 fi ai) : SS_add_w fi fl ai al v1 K := by
  unfold SS_add_w
  refine Gi_hasPart_s hp hp6 (br_b (fun e1 => ?_) (fun e1 => hno (fun i h1 e => absurd (by rw [e]; exact isP_nI h1 (by omega)) e1)))
  obtain ⟨i, hi, hi2, rfl⟩ := isP_of e1
  have no : ¬ ((0 < ns ∧ na < 40) ∧ nd < 6 ∧ (∀ k, k < nd → ¬ ai 10 k = nI i) ∧ (∀ y, y < 32 → bt (ai 39 i) y = true → ∃ k, k < nd ∧ ai 10 k = nI y)) → K 0 fi ai := fun q => hno (fun i' h1 e => by obtain rfl : i = i' := nI_inj (by omega) (by omega) e; exact q)
  unfold Pl_takesPart_w
  refine Pl_hasRoom_s h2 h12 h3 h40 (br_b (fun e2 => ?_) (fun e2 => if0 (no (fun q => e2 q.1))))
  rw [h4]
  refine br_i (le_nI (m := 6) rfl (by omega) (by omega)) (fun e3 => if0 (no (fun q => by have := q.2.1; omega))) (fun e3 => ?_)
  refine Pl_placeOf_s h4 h6 (fun k hk ek _ => ?_) (fun e4 => ?_)
  · exact br_i (le_nI (c := 0) (m := 0) rfl (by omega) (by omega)) (fun _ => if0 (no (fun q => q.2.2.1 k hk ek))) (fun q => absurd (Nat.zero_le _) q)
  · refine br_i (Iff.refl _) (fun q => absurd q (by decide)) (fun _ => if1 ?_)
    refine Pl_partBits_s h4 h6 hr (fun b hb => Gi_mayFollow_s (by omega) (br_b (fun e5 => ?_) (fun e5 => no (fun q => e5 (b_sub.mpr (fun y hy2 h5 => (hb y hy2).mpr (q.2.2.2 y hy2 h5)))))))
    have e6 := b_sub.mp e5
    unfold Pl_putPart_w
    rw [h4, h2]
    simp only [zw_nm]
    rw [nC (by omega), nI_p1, nI_s1 (by omega)]
    refine ⟨vp_in_nI (by omega) (by omega), vp_in_nI (by omega) (by omega), Pl_putAct_s (ns := ns) (na := na) ?_ e2.1 h12 ?_ e2.2 ?_⟩
    · rw [va_n _ _ (show 2 ≠ 4 by omega)]; exact h2
    · rw [va_n _ _ (show 3 ≠ 4 by omega)]; exact h3
    · exact hy i hi rfl e2.1 e2.2 (by omega) e4 (fun y hy2 h5 => (hb y hy2).mp (e6 y hy2 h5))
theorem Mo_add_s {K : Int32 → (Nat → Int32) → (Nat → Nat → Int32) → Prop} (hp : fi 0 = nI p) (hp6 : p ≤ 6) (h2 : fi 2 = nI ns) (h12 : ns ≤ 12) (h3 : fi 3 = nI na) (h40 : na ≤ 40)
    (hy : ∀ i, i < p → v1 = nI i → 0 < ns → na < 40 → (∀ a, a < na → ¬ (ai 10 a = 0 ∧ ai 11 a = nI i)) → (∀ x, x < p → ¬ ai 8 (6 * x + i) = 0 → ∃ a, a < na ∧ ai 10 a = 0 ∧ ai 11 a = nI x) → K 1 (va_up fi 3 (nI (na + 1))) (ac4 ai 10 na 0 (nI i) 0 (nI (ns - 1))))
    (hno : (∀ i, i < p → v1 = nI i → ¬ ((0 < ns ∧ na < 40) ∧ (∀ a, a < na → ¬ (ai 10 a = 0 ∧ ai 11 a = nI i)) ∧ (∀ x, x < p → ¬ ai 8 (6 * x + i) = 0 → ∃ a, a < na ∧ ai 10 a = 0 ∧ ai 11 a = nI x))) → K 0 fi ai) : Mo_add_w fi fl ai al v1 K := by
  unfold Mo_add_w
  by_cases e1 : isP p v1
  · obtain ⟨i, hi, hi2, rfl⟩ := isP_of e1
    have no : ¬ ((0 < ns ∧ na < 40) ∧ (∀ a, a < na → ¬ (ai 10 a = 0 ∧ ai 11 a = nI i)) ∧ (∀ x, x < p → ¬ ai 8 (6 * x + i) = 0 → ∃ a, a < na ∧ ai 10 a = 0 ∧ ai 11 a = nI x)) → K 0 fi ai := fun q => hno (fun i' h1 e => by obtain rfl : i = i' := nI_inj (by omega) (by omega) e; exact q)
    refine Mo_mayPut_s h2 h12 h3 h40 (br_b (fun e2 => ?_) (fun e2 => no (fun q => e2 q.1)))
    refine Mo_isPart_s hp hp6 (br_b (fun _ => ?_) (fun e => absurd e1 e))
    refine Mo_actOf_s h3 h40 (fun a h1 ek ew _ => ?_) (fun e3 => ?_)
    · exact br_i (nI_lt' (c := 0) (m := 0) rfl (by omega) (by omega)) (fun q => absurd q (Nat.not_lt_zero _)) (fun _ => no (fun q => q.2.1 a h1 ⟨ek, ew⟩))
    · refine br_i (Iff.refl _) (fun _ => ?_) (fun q => absurd (by decide) q)
      rw [hp]
      refine lp1_c p (by omega) (fun k => ∀ x, x < k → ¬ ai 8 (6 * x + i) = 0 → ∃ a, a < na ∧ ai 10 a = 0 ∧ ai 11 a = nI x) (fun L k hk hI hL => ?_) 0 (by omega) (fun x h => absurd h (Nat.not_lt_zero _))
      refine br_n (by omega) (by omega) (fun q => ?_) (fun q => ?_)
      · exact Mo_put_s h2 e2.1 h12 h3 e2.2 (hy i hi rfl e2.1 e2.2 e3 (fun x hx => hI x (by omega)))
      · rw [xi6, nC (by omega)]
        refine ⟨vp_in_nI (by omega) (by omega), jn0_o (¬ ai 8 (6 * k + i) = 0 → ∃ a, a < na ∧ ai 10 a = 0 ∧ ai 11 a = nI k) (fun e4 => ?_) (fun J hJ => ?_)⟩
        · unfold zw_nm
          rw [nI_p1]
          refine hL q (fun x hx h => ?_)
          rcases Nat.lt_or_ge x k with z | z
          · exact hI x z h
          · have z3 : x = k := by omega
            subst z3; exact e4 h
        · refine br_i Iff.rfl (fun e => hJ (fun z => absurd e z)) (fun e => Mo_actOf_s h3 h40 (fun a h1 ek ew _ => ?_) (fun e5 => ?_))
          · exact br_i (le_nI (c := 0) (m := 0) rfl (by omega) (by omega)) (fun _ => hJ (fun _ => ⟨a, h1, ek, ew⟩)) (fun z => absurd (Nat.zero_le _) z)
          · exact br_i (Iff.refl _) (fun z => absurd z (by decide)) (fun _ => no (fun z => by obtain ⟨a, z1, z2⟩ := z.2.2 k q e; exact e5 a z1 z2))
  · have no : K 0 fi ai := hno (fun i h1 e => absurd (by rw [e]; exact isP_nI h1 (by omega)) e1)
    refine Mo_mayPut_s h2 h12 h3 h40 (br_b (fun e2 => ?_) (fun e2 => no))
    exact Mo_isPart_s hp hp6 (br_b (fun e => absurd e e1) (fun _ => no))
end AD
theorem RlN.rowP {p nc ns na nd nr no : Nat} {fi gi : Nat → Int32} {ai bi : Nat → Nat → Int32} {al bl : Nat → Nat → Int64} (h : RlN p nc ns na nd nr no fi ai al gi bi bl) (k : Nat) (hk : k < nd) : isP p (ai 10 k) := by
  obtain ⟨hn, hC, hg, hk0, hd, ha, hw, hf, he, ho, hr, hq⟩ := h
  rw [hw.1] at hk
  obtain ⟨a, h1, h2, h3⟩ := cnt_at na hk
  rw [← h3, (hw.2.1 a h1 h2).1]
  rcases (ha.1 a h1).2.2.2.2.2 with q | q | q | q
  · exact q.2
  · exact q.2.1
  · rw [q.1] at h2; exact absurd h2 (by decide)
  · rw [q.1] at h2; exact absurd h2 (by decide)
theorem Rf.closed {p nd : Nat} {ai bi : Nat → Nat → Int32} (h : Rf p nd ai bi) {x y : Nat} (hxy : Rh bi x y) : (∃ k, k < nd ∧ ai 10 k = nI y) → ∃ k, k < nd ∧ ai 10 k = nI x := by
  unfold Rh at hxy
  induction hxy with
  | single e =>
    rintro ⟨k, h1, h2⟩
    obtain ⟨j, h3, h4⟩ := h.2.2.2.2.2 _ _ e k h1 h2
    exact ⟨j, by omega, h4⟩
  | tail _ e ih =>
    rintro ⟨k, h1, h2⟩
    obtain ⟨j, h3, h4⟩ := h.2.2.2.2.2 _ _ e k h1 h2
    exact ih ⟨j, by omega, h4⟩
theorem s_add : st_add Rl := by
  intro fi fl ai al gi gl bi bl v1 hR
  obtain ⟨p, nc, ns, na, nd, nr, no, hN⟩ := Rl.e hR
  obtain ⟨hn, hC, hg, hk, hd, ha, hw, hf, he, ho, hr, hq⟩ := id hN
  obtain ⟨n1, n2, n3, n4, n5, n6, n7, n8⟩ := id hn
  obtain ⟨c7, g0, c1, g1, c2, g2, c3, g3, c4, c6, g6, c11, g7, c5, c0, c0r⟩ := id hC
  have r6 : ∀ k, k < nd → isP 6 (ai 10 k) := fun k h => by have := hN.rowP k h; unfold isP at this ⊢; omega
  -- the two tests of what must come before say the same
  have bef : ∀ i, i < p → ((∀ y, y < 32 → bt (ai 39 i) y = true → ∃ k, k < nd ∧ ai 10 k = nI y) ↔ (∀ x, x < p → ¬ bi 8 (6 * x + i) = 0 → ∃ a, a < na ∧ bi 10 a = 0 ∧ bi 11 a = nI x)) := by
    intro i hi
    constructor
    · intro h x hx e
      have ed : Ed bi x i := ⟨by omega, by omega, e⟩
      exact (hN.there (nI x)).mp (h x (by omega) ((hf.2.2.1 x i (by omega) (by omega)).mpr (Relation.TransGen.single ed)))
    · intro h y hy e
      rcases Nat.lt_or_ge y 6 with q | q
      · have rh := (hf.2.2.1 y i q (by omega)).mp e
        unfold Rh at rh
        cases rh with
        | single ed => exact (hN.there (nI y)).mpr (h y (hf.2.1 y i ed).1 ed.2.2)
        | @tail b _ rb ed => exact hf.closed rb ((hN.there (nI b)).mpr (h b (hf.2.1 b i ed).1 ed.2.2))
      · rw [hf.2.2.2.1 i y (by omega) q] at e; cases e
  have nin : ∀ i, (∀ k, k < nd → ¬ ai 10 k = nI i) ↔ (∀ a, a < na → ¬ (bi 10 a = 0 ∧ bi 11 a = nI i)) := fun i => by
    have := hN.there (nI i)
    constructor
    · intro h a h1 h2
      obtain ⟨k, z1, z2⟩ := this.mpr ⟨a, h1, h2⟩
      exact h k z1 z2
    · intro h k h1 h2
      obtain ⟨a, z1, z2⟩ := this.mp ⟨k, h1, h2⟩
      exact h a z1 z2
  have nd6 : ∀ i, i < p → (∀ k, k < nd → ¬ ai 10 k = nI i) → nd < 6 := fun i hi h => by
    rcases Nat.lt_or_ge nd 6 with q | q
    · exact q
    · exfalso
      obtain ⟨k, h1, h2⟩ := php6 (f := fun k => (ai 10 k).toNatClampNeg) (fun k hk => by
        obtain ⟨w, w1, w2, w3⟩ := isP_of (r6 k (by omega))
        show (ai 10 k).toNatClampNeg < 6
        rw [w3, nC w2]; exact w1) (fun k j hk hj e => by
        obtain ⟨w, w1, w2, w3⟩ := isP_of (r6 k (by omega))
        obtain ⟨u, u1, u2, u3⟩ := isP_of (r6 j (by omega))
        have e : (ai 10 k).toNatClampNeg = (ai 10 j).toNatClampNeg := e
        rw [w3, u3, nC w2, nC u2] at e
        exact hw.2.2.1 k j (by omega) (by omega) (by rw [w3, u3, e])) (y := i) (by omega)
      obtain ⟨w, w1, w2, w3⟩ := isP_of (r6 k (by omega))
      have h2 : (ai 10 k).toNatClampNeg = i := h2
      rw [w3, nC w2] at h2
      exact h k (by omega) (by rw [w3, h2])
  refine SS_add_s c7 n2 c2 n4 c3 n5 c4 n6 r6 (fun i hi e h1 h2 h3 h4 h5 => ?_) (fun h => ?_)
  · subst e
    refine Mo_add_s g0 n2 g2 n4 g3 n5 (fun i' hi' e _ _ _ h6 => ?_) (fun h => absurd ⟨⟨h1, h2⟩, (nin i).mp h4, (bef i hi).mp h5⟩ (h i hi rfl))
    obtain rfl : i = i' := nI_inj (by omega) (by omega) e
    refine ⟨rfl, Rl.i p nc ns (na + 1) (nd + 1) nr no ⟨⟨n1, n2, n3, n4, by omega, by omega, n7, n8⟩, ⟨c7, g0, c1, g1, c2, g2, rfl, rfl, rfl, c6, g6, c11, g7, c5, c0, c0r⟩, hg.c (fun q _ _ => by rw [ac4_o (by omega), va_n _ _ (show q ≠ 11 by omega), va_n _ _ (show q ≠ 10 by omega)]) (fun q _ _ => ac4_o (by omega)), hk, hd, ⟨fun a ha2 => ?_, fun a ha2 => ?_⟩, ⟨?_, fun a ha2 h0 => ?_, fun j k hj hk2 e => ?_, fun a ha2 h0 => ?_⟩, ⟨hf.1, hf.2.1, hf.2.2.1, hf.2.2.2.1, hf.2.2.2.2.1, fun x y ed k hk2 e => ?_⟩, he, ho, hr, hq⟩⟩
    · show upd (bi 10) na 0 a = upd (ai 6) na 0 a ∧ upd (bi 11) na (nI i) a = upd (ai 7) na (nI i) a ∧ upd (bi 12) na 0 a = upd (ai 8) na 0 a ∧ upd (bi 13) na (nI (ns - 1)) a = upd (ai 9) na (nI (ns - 1)) a ∧ isP ns (upd (ai 9) na (nI (ns - 1)) a) ∧ ((upd (ai 6) na 0 a = 0 ∧ isP p (upd (ai 7) na (nI i) a)) ∨ (upd (ai 6) na 0 a = 1 ∧ isP p (upd (ai 7) na (nI i) a) ∧ isR (-1000) 1000 (upd (ai 8) na 0 a)) ∨ (upd (ai 6) na 0 a = 2 ∧ isP 3 (upd (ai 7) na (nI i) a)) ∨ (upd (ai 6) na 0 a = 3 ∧ isP 3 (upd (ai 7) na (nI i) a)))
      by_cases e : a = na
      · subst e
        simp only [pk_us]
        exact ⟨trivial, trivial, trivial, trivial, isP_nI (by omega) (by omega), Or.inl ⟨trivial, isP_nI hi (by omega)⟩⟩
      · simp only [pk_un e]; exact ha.1 a (by omega)
    · show (upd (ai 9) na (nI (ns - 1)) a).toInt ≤ (upd (ai 9) na (nI (ns - 1)) (a + 1)).toInt
      rw [pk_un (show a ≠ na by omega)]
      by_cases e : a + 1 = na
      · rw [e, pk_us, nT (by omega)]
        have := (ha.1 a (by omega)).2.2.2.2.1.2
        omega
      · rw [pk_un e]; exact ha.2 a (by omega)
    · show nd + 1 = cnt (upd (ai 6) na 0) (na + 1)
      rw [cnt_s0 (by rw [pk_us]), cnt_upd na (Nat.le_refl _), hw.1]
    · show upd (ai 10) nd (nI i) (cnt (upd (ai 6) na 0) a) = upd (ai 7) na (nI i) a ∧ upd (ai 11) nd (nI (ns - 1)) (cnt (upd (ai 6) na 0) a) = upd (ai 9) na (nI (ns - 1)) a
      rw [cnt_upd a (by omega)]
      by_cases e : a = na
      · subst e
        rw [← hw.1, pk_us, pk_us, pk_us, pk_us]; exact ⟨rfl, rfl⟩
      · have h0 : upd (ai 6) na 0 a = 0 := h0
        rw [pk_un e] at h0
        have lt := cnt_lt (kd := ai 6) (show a < na by omega) h0
        rw [← hw.1] at lt
        rw [pk_un (Nat.ne_of_lt lt), pk_un (Nat.ne_of_lt lt), pk_un e, pk_un e]
        exact hw.2.1 a (by omega) h0
    · have e : upd (ai 10) nd (nI i) j = upd (ai 10) nd (nI i) k := e
      by_cases q : j = nd
      · by_cases q2 : k = nd
        · omega
        · rw [q, pk_us, pk_un q2] at e
          exact absurd e.symm (h4 k (by omega))
      · by_cases q2 : k = nd
        · rw [q2, pk_us, pk_un q] at e
          exact absurd e (h4 j (by omega))
        · rw [pk_un q, pk_un q2] at e
          exact hw.2.2.1 j k (by omega) (by omega) e
    · have h0 : upd (ai 6) na 0 a = 1 := h0
      have e : a ≠ na := fun e => by rw [e, pk_us] at h0; exact absurd h0 (by decide)
      rw [pk_un e] at h0
      show ∃ k, k < cnt (upd (ai 6) na 0) a ∧ upd (ai 10) nd (nI i) k = upd (ai 7) na (nI i) a
      rw [cnt_upd a (by omega), pk_un e]
      obtain ⟨k, z1, z2⟩ := hw.2.2.2 a (by omega) h0
      have := cnt_mono (kd := ai 6) (show a ≤ na by omega)
      rw [← hw.1] at this
      exact ⟨k, z1, by rw [pk_un (show k ≠ nd by omega)]; exact z2⟩
    · have e : upd (ai 10) nd (nI i) k = nI y := e
      have ed' : Ed bi x y := ed
      show ∃ j, j < k ∧ upd (ai 10) nd (nI i) j = nI x
      by_cases q : k = nd
      · rw [q, pk_us] at e
        obtain rfl : i = y := nI_inj (by omega) (by have := ed'.2.1; omega) e
        obtain ⟨k2, z1, z2⟩ := (hN.there (nI x)).mpr (h6 x (hf.2.1 x i ed').1 ed'.2.2)
        exact ⟨k2, by omega, by rw [pk_un (show k2 ≠ nd by omega)]; exact z2⟩
      · rw [pk_un q] at e
        obtain ⟨j, z1, z2⟩ := hf.2.2.2.2.2 x y ed' k (by omega) e
        exact ⟨j, z1, by rw [pk_un (show j ≠ nd by omega)]; exact z2⟩
  · exact Mo_add_s g0 n2 g2 n4 g3 n5 (fun i hi e h1 h2 h3 h4 => absurd ⟨⟨h1, h2⟩, nd6 i hi ((nin i).mpr h3), (nin i).mpr h3, (bef i hi).mpr h4⟩ (h i hi e)) (fun _ => ⟨rfl, hR⟩)
