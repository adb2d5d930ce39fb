/-! PURE: the class's walk from act to act -/
theorem mulB {x y : Int} (hx : -1000 ≤ x ∧ x ≤ 1000) (hy : -1000 ≤ y ∧ y ≤ 1000) : -1000000 ≤ x * y ∧ x * y ≤ 1000000 := by
  have h := Int.natAbs_mul x y
  have h2 : x.natAbs * y.natAbs ≤ 1000 * 1000 := Nat.mul_le_mul (by omega) (by omega)
  omega
theorem mul64 {x y : Int32} (hx : isR (-1000) 1000 x) (hy : isR (-1000) 1000 y) : (x * y).toInt64 = x.toInt64 * y.toInt64 := by
  have b := mulB hx hy
  apply Int64.toInt_inj.mp
  rw [i_l, i_mul (by omega), Int64.toInt_mul, i_l, i_l, Int.bmod_eq_of_le (by omega) (by omega)]
theorem add64 {x : Int32} (hx : isR 0 5000 x) : ((1000 : Int32) + x).toInt64 = 1000 + x.toInt64 := by
  obtain ⟨h1, h2⟩ := hx
  have t : (1000 : Int32).toInt = 1000 := rfl
  have t2 : (1000 : Int64).toInt = 1000 := rfl
  apply Int64.toInt_inj.mp
  rw [i_l, i_add (by omega), Int64.toInt_add, i_l, t, t2, Int.bmod_eq_of_le (by omega) (by omega)]
theorem onB {p nc ns na nd nr no : Nat} {fi gi : Nat → Int32} {A bi : Nat → Nat → Int32} {al bl : Nat → Nat → Int64} (h : RlN p nc ns na nd nr no fi A al gi bi bl) {k : Nat} (hk : 3 ≤ k) (hk2 : k < 1000) : ∀ a, a ≤ na → onk (A 6) (A 7) k a = false := by
  intro a
  induction a with
  | zero => intro _; rfl
  | succ a ih =>
    intro h1
    rw [onk_s]
    have ne : A 6 a = 2 ∨ A 6 a = 3 → ¬ A 7 a = nI k := fun h2 e => by
      have := (h.k3 a (by omega) h2).2
      rw [e, nT (by omega)] at this
      omega
    rw [if_neg (fun q => ne (Or.inl q.1) q.2), if_neg (fun q => ne (Or.inr q.1) q.2)]
    exact ih (by omega)
theorem on3n {A : Nat → Nat → Int32} {n : Nat} {b : Int32} (h : ∀ k, k < 32 → bt b k = onk (A 6) (A 7) k n) (h3 : ∀ k, 3 ≤ k → k < 32 → onk (A 6) (A 7) k n = false) : b = nI (obA A n) := by
  have := on3 (b := b) (f := fun k => if k < 32 then onk (A 6) (A 7) k n else false) (fun k hk => by rw [h k hk]; exact (if_pos hk).symm) (fun k hk => by
    by_cases q : k < 32
    · show (if k < 32 then onk (A 6) (A 7) k n else false) = false
      rw [if_pos q]; exact h3 k hk q
    · exact if_neg q)
  rw [this]
  show (if onk (A 6) (A 7) 0 n = true then 1 else 0) + (if onk (A 6) (A 7) 1 n = true then 2 else 0) + (if onk (A 6) (A 7) 2 n = true then 4 else 0) = _
  unfold obA
  cases onk (A 6) (A 7) 0 n <;> cases onk (A 6) (A 7) 1 n <;> cases onk (A 6) (A 7) 2 n <;> decide
theorem RlN.row11 {p nc ns na nd nr no : Nat} {fi gi : Nat → Int32} {A bi : Nat → Nat → Int32} {al bl : Nat → Nat → Int64} (h : RlN p nc ns na nd nr no fi A al gi bi bl) {k : Nat} (hk : k < nd) : ∃ a, a < na ∧ A 6 a = 0 ∧ cnt (A 6) a = k ∧ A 11 k = A 9 a ∧ isP ns (A 9 a) := by
  obtain ⟨hn, hC, hg, hk0, hd, ha, hw, hf, he, ho, hr, hq⟩ := h
  rw [hw.1] at hk
  obtain ⟨a, h1, h2, h3⟩ := cnt_at na hk
  exact ⟨a, h1, h2, h3, by rw [← h3]; exact (hw.2.1 a h1 h2).2, (ha.1 a h1).2.2.2.2.1⟩
/-- where the class's walk stands behind the first n acts -/
def Wi (A : Nat → Nat → Int32) (row : Nat → Int32) (D : Int32) (p nc nd n : Nat) (fi : Nat → Int32) (al : Nat → Nat → Int64) : Prop :=
  (∀ i, i < 32 → bt (fi 9) i = hasR row (nI i) (cnt (A 6) n)) ∧ (∀ k, k < 32 → bt (fi 10) k = onk (A 6) (A 7) k n) ∧ (∀ k, k < 3 → al 42 k = carA A row k n) ∧ (∀ i k, i < p → k < nd → row k = nI i → al 41 i = rsA A row nc D (A 11 k) i n)
/-- the stage in which each part of the row is added -/
def Ad (A : Nat → Nat → Int32) (row : Nat → Int32) (nd : Nat) (f : Nat → Int32) : Prop :=
  (∀ i k, i < 6 → k < nd → row k = nI i → f i = A 11 k) ∧ (∀ i, i < 6 → (∀ k, k < nd → ¬ row k = nI i) → f i = -1)
/-- what the walk leaves as it was -/
def Wf (fi : Nat → Int32) (ai : Nat → Nat → Int32) (al : Nat → Nat → Int64) (fi' : Nat → Int32) (ai' : Nat → Nat → Int32) (al' : Nat → Nat → Int64) : Prop :=
  (∀ k, k ≠ 9 → k ≠ 10 → fi' k = fi k) ∧ (∀ q, q ≠ 43 → ai' q = ai q) ∧ (∀ q, q ≠ 41 → q ≠ 42 → al' q = al q)
section GO
variable {fi fi0 gi : Nat → Int32} {fl : Nat → Int64} {ai A bi : Nat → Nat → Int32} {al al0 bl : Nat → Nat → Int64} {p nc ns na nd nr no : Nat} {D : Int32} {row : Nat → Int32}
theorem lf_fac {s i k n : Nat} {g v0 v : Int64} (hN : RlN p nc ns na nd nr no fi0 A al0 gi bi bl) (h44 : ∀ s, s < ns → ai 44 s = crA A (D - A 5 s) nc) (h46 : ∀ t s, t < ns → s ≤ t → ai (46 + t) s = crA A (A 5 t - A 5 s) nc) (e43 : ai 43 i = A 11 k) (hn : n < na) (hs : s < ns) (es : A 9 n = nI s) (hb : bt (fi 9) i = hasR row (nI i) (cnt (A 6) (n + 1))) (hk : k < nd) (e : row k = nI i) (h : lfF fi ai s i g v0 v) : v = v0 + g * faA A row nc D (A 11 k) i n := by
  have n12 : ns ≤ 12 := hN.1.2.2.2.1
  unfold faA
  rw [es, nC (show s < 2147483648 by omega)]
  cases z : hasR row (nI i) (cnt (A 6) (n + 1)) with
  | true =>
    rw [if_pos rfl, h.1 (hb.trans z), h44 s hs]
  | false =>
    rw [if_neg (by decide)]
    obtain ⟨a, a1, a2, a3, a4, a5⟩ := hN.row11 hk
    obtain ⟨t, t1, t2, t3⟩ := isP_of a5
    have lt : n < a := by
      rcases Nat.lt_or_ge n a with q | q
      · exact q
      · have := cnt_lt (kd := A 6) (show a < n + 1 by omega) a2
        rw [a3] at this
        have := (hasR_i (row := row) (x := nI i) _).mpr ⟨k, this, e⟩
        rw [z] at this; cases this
    obtain ⟨hn', hC, hg, hk0, hd, ha, hw, hf, he, ho, hr, hq⟩ := hN
    have mo := ha.mono (show n ≤ a by omega) a1
    rw [es, t3, nT (by omega), nT (by omega)] at mo
    rw [h.2 (hb.trans z) t (by omega) (by rw [e43, a4, t3]), h44 s hs, h46 t s t1 (by omega), a4, t3, nC t2]
/-- an act that loads -/
theorem press_go {s w n : Nat} {t : Int32} {al1 al2 : Nat → Nat → Int64} (hN : RlN p nc ns na nd nr no fi0 A al0 gi bi bl) (h44 : ∀ s, s < ns → ai 44 s = crA A (D - A 5 s) nc) (h46 : ∀ t s, t < ns → s ≤ t → ai (46 + t) s = crA A (A 5 t - A 5 s) nc) (hA : ∀ q, q < 43 → ai q = A q) (hAd : Ad A row nd (ai 43)) (hn : n < na) (hs : s < ns) (es : A 9 n = nI s)
    (k01 : A 6 n = 0 ∨ A 6 n = 1) (et : tA A row n = t) (ew : wA A row n = nI w) (hw : w < p) (ht : isR (-1000) 1000 t)
    (b9 : ∀ i, i < 32 → bt (fi 9) i = hasR row (nI i) (cnt (A 6) (n + 1))) (b10 : ∀ k, k < 32 → bt (fi 10) k = onk (A 6) (A 7) k n) (c42 : ∀ k, k < 3 → al1 42 k = carA A row k n) (c41 : ∀ i k, i < p → k < nd → row k = nI i → al1 41 i = rsA A row nc D (A 11 k) i n)
    (l41 : ∀ i, i < p → lfF fi ai s i ((t.toInt64 * 1000) * (ai (23 + obA A n) (6 * i + w)).toInt64) (al1 41 i) (al2 41 i)) (l42 : ∀ k, k < 3 → al2 42 k = if bt (fi 10) k = true then al1 42 k + (t * ai (32 + k) w).toInt64 else al1 42 k) : Wi A row D p nc nd (n + 1) fi al2 := by
  have p6 : p ≤ 6 := hN.1.2.1
  have k2 : ¬ A 6 n = 2 := fun e => by rcases k01 with q | q <;> rw [q] at e <;> exact absurd e (by decide)
  have k3 : ¬ A 6 n = 3 := fun e => by rcases k01 with q | q <;> rw [q] at e <;> exact absurd e (by decide)
  refine ⟨b9, fun k hk => ?_, fun k hk => ?_, fun i k hi hk e => ?_⟩
  · rw [b10 k hk, onk_s, if_neg (fun q => k2 q.1), if_neg (fun q => k3 q.1)]
  · rw [l42 k hk, b10 k (by omega), carA_s, if_pos k01, et, ew, nC (show w < 2147483648 by omega), c42 k hk, hA (32 + k) (by omega), mul64 ht (hN.2.2.1.2.2.2.1 k w hk (by omega)).2]
  · rw [lf_fac hN h44 h46 (hAd.1 i k (by omega) hk e) hn hs es (b9 i (by omega)) hk e (l41 i hi), rsA_s, c41 i k hi hk e]
    have : ((t.toInt64 * 1000) * (ai (23 + obA A n) (6 * i + w)).toInt64) = gnA A row i n := by
      unfold gnA
      rw [if_pos k01, et, ew, nC (show w < 2147483648 by omega), hA (23 + obA A n) (by have := obA_8 (A := A) (a := n); omega), Int64.mul_assoc, Int64.mul_comm 1000, ← Int64.mul_assoc]
    rw [this]
theorem Wa_go_s {K : Int32 → (Nat → Int32) → (Nat → Nat → Int32) → (Nat → Nat → Int64) → Prop} {P0 : Nat} (hP : P0 = 10 ∨ P0 = 59) (hN : RlN p nc ns na nd nr no fi0 A al0 gi bi bl) (hf : ∀ k, k < 8 → fi k = fi0 k) (hA : ∀ q, q < 43 → ai q = A q) (h44 : ∀ s, s < ns → ai 44 s = crA A (D - A 5 s) nc) (h46 : ∀ t s, t < ns → s ≤ t → ai (46 + t) s = crA A (A 5 t - A 5 s) nc) (hr : ∀ k, k < nd → isP p (ai P0 k)) (un : ∀ j k, j < nd → k < nd → ai P0 j = ai P0 k → j = k)
    (hy : ∀ fi' ai' al' n, Wf fi ai al fi' ai' al' → Ad A (ai P0) nd (ai' 43) → n ≤ na → (∀ b, b < n → ¬ fi 8 < A 9 b) → (n = na ∨ fi 8 < A 9 n) → (∀ b, b < n → A 6 b = 1 → hasR (ai P0) (A 7 b) (cnt (A 6) b) = true) → Wi A (ai P0) D p nc nd n fi' al' → K 1 fi' ai' al')
    (hno : ∀ fi' ai' al' b, Wf fi ai al fi' ai' al' → b < na → A 6 b = 1 → ¬ hasR (ai P0) (A 7 b) (cnt (A 6) b) = true → K 0 fi' ai' al') : Wa_go_w fi fl ai al P0 K := by
  obtain ⟨hn, hC, hg, hk, hd, ha, hw, hf0, he, ho, hr0, hq⟩ := id hN
  obtain ⟨n1, n2, n3, n4, n5, n6, n7, n8⟩ := id hn
  obtain ⟨c7, g0, c1, g1, c2, g2, c3, g3, c4, c6, g6, c11, g7, c5, c0, c0r⟩ := id hC
  unfold Wa_go_w
  refine Wa_begin_s hP ((hf 4 (by omega)).trans c4) n6 (fun k hk2 => by have := hr k hk2; unfold isP at this ⊢; omega) un (fun ai1 al1 f1 f2 f3 m1 m2 m3 => ?_)
  have e10 : ai1 P0 = ai P0 := f1 P0 (by omega)
  have A1 : ∀ q, q < 43 → ai1 q = A q := fun q h => (f1 q (by omega)).trans (hA q h)
  have h44' : ∀ s, s < ns → ai1 44 s = crA A (D - A 5 s) nc := fun s h => by rw [f1 44 (by omega)]; exact h44 s h
  have h46' : ∀ t s, t < ns → s ≤ t → ai1 (46 + t) s = crA A (A 5 t - A 5 s) nc := fun t s h1 h2 => by rw [f1 (46 + t) (by omega)]; exact h46 t s h1 h2
  have hAd : Ad A (ai P0) nd (ai1 43) := ⟨fun i k h1 h2 h3 => by rw [f2 i k h1 h2 h3, hA 11 (by omega)], f3⟩
  have h43 : ∀ i, i < 6 → ai1 43 i = -1 ∨ isP 12 (ai1 43 i) := fun i hi => by
    by_cases q : ∃ k, k < nd ∧ ai P0 k = nI i
    · obtain ⟨k, k1, k2⟩ := q
      obtain ⟨a, a1, a2, a3, a4, a5⟩ := hN.row11 k1
      right
      rw [hAd.1 i k hi k1 k2, a4]
      unfold isP at a5 ⊢
      omega
    · exact Or.inl (f3 i hi (fun k k1 k2 => q ⟨k, k1, k2⟩))
  simp only [zw_nm]
  rw [A1 6 (by omega), A1 7 (by omega), A1 8 (by omega), A1 9 (by omega)]
  refine lp4_d na (by omega) (fun n c fi' al' => c = nI (cnt (A 6) n) ∧ (∀ k, k ≠ 9 → k ≠ 10 → fi' k = fi k) ∧ (∀ q, q ≠ 41 → q ≠ 42 → al' q = al q) ∧ (∀ b, b < n → ¬ fi 8 < A 9 b) ∧ (∀ b, b < n → A 6 b = 1 → hasR (ai P0) (A 7 b) (cnt (A 6) b) = true) ∧ Wi A (ai P0) D p nc nd n fi' al') (fun L n c fi2 al2 hnn hI hL => ?_) 0 0 _ al1 (by omega) ⟨rfl, fun k h1 h2 => by rw [va_n _ _ h2, va_n _ _ h1], m1, fun b h => absurd h (Nat.not_lt_zero _), fun b h => absurd h (Nat.not_lt_zero _), fun i hi => ?_, fun i hi => ?_, fun k hk2 => m3 k hk2, fun i k hi hk2 e => m2 i (by omega)⟩
  · obtain ⟨rfl, i1, i2, i3, i4, iW⟩ := hI
    have wf : Wf fi ai al fi2 ai1 al2 := ⟨i1, f1, i2⟩
    rw [i1 3 (by omega) (by omega), i1 8 (by omega) (by omega), hf 3 (by omega), c3]
    refine br_n (by omega) (by omega) (fun q => ?_) (fun q => ⟨vp_in_nI (by omega) (by omega), ?_⟩)
    · exact hy fi2 ai1 al2 n wf hAd (by omega) i3 (Or.inl (by omega)) i4 iW
    · rw [nC (show n < 2147483648 by omega)]
      refine br_i Iff.rfl (fun e => hy fi2 ai1 al2 n wf hAd (by omega) i3 (Or.inr e) i4 iW) (fun e => ⟨vp_in_nI (by omega) (by omega), vp_in_nI (by omega) (by omega), vp_in_nI (by omega) (by omega), ?_⟩)
      obtain ⟨-, -, -, -, st, kind⟩ := ha.1 n q
      obtain ⟨s, s1, s2, s3⟩ := isP_of st
      obtain ⟨w9, w10, w42, w41⟩ := id iW
      have o10 : fi2 10 = nI (obA A n) := on3n w10 (fun k h1 h2 => onB hN h1 (by omega) n (by omega))
      have p7 : fi2 7 = nI p := (i1 7 (by omega) (by omega)).trans ((hf 7 (by omega)).trans c7)
      have st3 : ∀ b, b < n + 1 → ¬ fi 8 < A 9 b := fun b hb => by
        by_cases z : b = n
        · rw [z]; exact e
        · exact i3 b (by omega)
      have step : ∀ fi' al', (∀ k, k ≠ 9 → k ≠ 10 → fi' k = fi2 k) → (∀ q, q ≠ 41 → q ≠ 42 → al' q = al2 q) → (A 6 n = 1 → hasR (ai P0) (A 7 n) (cnt (A 6) n) = true) → Wi A (ai P0) D p nc nd (n + 1) fi' al' → ∀ c, c = nI (cnt (A 6) (n + 1)) → L c (nI (n + 1)) fi' al' := fun fi' al' h1 h2 h3 h4 c hc => hL _ _ _ q ⟨hc, fun k z1 z2 => (h1 k z1 z2).trans (i1 k z1 z2), fun r z1 z2 => (h2 r z1 z2).trans (i2 r z1 z2), st3, fun b hb => by
        by_cases z : b = n
        · rw [z]; exact h3
        · exact i4 b (by omega), h4⟩
      rw [s3, nI_p1]
      rw [e10]
      refine jn3_o (fun c fi' al' => c = nI (cnt (A 6) (n + 1)) ∧ (∀ k, k ≠ 9 → k ≠ 10 → fi' k = fi2 k) ∧ (∀ q, q ≠ 41 → q ≠ 42 → al' q = al2 q) ∧ (A 6 n = 1 → hasR (ai P0) (A 7 n) (cnt (A 6) n) = true) ∧ Wi A (ai P0) D p nc nd (n + 1) fi' al') (fun c fi' al' hY => step fi' al' hY.2.1 hY.2.2.1 hY.2.2.2.1 hY.2.2.2.2 c hY.1) (fun J hJ => ?_)
      rcases kind with ⟨kd, kp⟩ | ⟨kd, kp, kt⟩ | ⟨kd, kp⟩ | ⟨kd, kp⟩
      · -- a part comes in
        have ck : cnt (A 6) n < nd := by rw [hw.1]; exact cnt_lt q kd
        obtain ⟨w, u1, u2, u3⟩ := isP_of (hr _ ck)
        rw [if_pos kd, nC (show cnt (A 6) n < 2147483648 by omega), u3, nI_p1, nC u2, A1 20 (by omega)]
        refine ⟨vp_in_nI (by omega) (by omega), vp_in_nI (by omega) (by omega), vp_in_nI (by omega) (by omega), vp_in_nI (by omega) (by omega), Wa_press_s (p := p) (o := obA A n) ?_ n2 ?_ obA_8 (by omega) (by omega) h43 (fun al3 q1 q2 q3 => ?_)⟩
        · rw [va_n _ _ (show 7 ≠ 9 by omega)]; exact p7
        · rw [va_n _ _ (show 10 ≠ 9 by omega)]; exact o10
        · refine hJ _ _ _ ⟨by rw [cnt_s0 kd], fun k z1 z2 => va_n _ _ z1, q1, fun z => absurd (kd.symm.trans z) (by decide), ?_⟩
          refine press_go hN h44' h46' A1 hAd q s1 s3 (Or.inl kd) (t := A 20 w) (w := w) ?_ ?_ u1 ?_ (fun i hi => ?_) (fun k hk2 => ?_) w42 w41 q2 q3
          · unfold tA; rw [if_pos kd, u3, nC u2]
          · unfold wA; rw [if_pos kd, u3]
          · have := (hg.1 w (by omega)).2; unfold isR at this ⊢; omega
          · rw [va_s, b_or, b_bit (by omega) hi, w9 i hi, cnt_s0 kd, hasR_s, u3]
            congr 1
            exact decide_eq_decide.mpr ⟨fun z => by rw [z], fun z => (nI_inj (by omega) (by omega) z).symm⟩
          · rw [va_n _ _ (show 10 ≠ 9 by omega)]; exact w10 k hk2
      · -- a load
        obtain ⟨w, u1, u2, u3⟩ := isP_of kp
        rw [if_neg (by rw [kd]; decide), if_pos kd, u3]
        refine SS_hasBit_s (by omega) ?_
        rw [w9 w (by omega)]
        refine br_b (fun z => ⟨vp_in_nI (by omega) (by omega), ?_⟩) (fun z => hno fi2 ai1 al2 n wf q kd (by rw [u3]; exact z))
        refine Wa_press_s (p := p) (o := obA A n) p7 n2 o10 obA_8 (by omega) (by omega) h43 (fun al3 q1 q2 q3 => ?_)
        have k0 : ¬ A 6 n = 0 := by rw [kd]; decide
        refine hJ _ _ _ ⟨by rw [cnt_s1 k0], fun _ _ _ => rfl, q1, fun _ => by rw [u3]; exact z, ?_⟩
        refine press_go hN h44' h46' A1 hAd q s1 s3 (Or.inr kd) (t := A 8 n) (w := w) ?_ ?_ u1 kt (fun i hi => ?_) w10 w42 w41 q2 q3
        · unfold tA; rw [if_neg k0]
        · unfold wA; rw [if_neg k0, u3]
        · rw [w9 i hi, cnt_s1 k0]
      · -- a support is put
        obtain ⟨w, u1, u2, u3⟩ := isP_of kp
        have k0 : ¬ A 6 n = 0 := by rw [kd]; decide
        have k1 : ¬ A 6 n = 1 := by rw [kd]; decide
        have k3 : ¬ A 6 n = 3 := by rw [kd]; decide
        rw [if_neg k0, if_neg k1, if_pos kd, u3]
        refine hJ _ _ _ ⟨by rw [cnt_s1 k0], fun k z1 z2 => va_n _ _ z2, fun _ _ _ => rfl, fun z => absurd z k1, fun i hi => ?_, fun k hk2 => ?_, fun k hk2 => ?_, fun i k hi hk2 z => ?_⟩
        · rw [va_n _ _ (show 9 ≠ 10 by omega), w9 i hi, cnt_s1 k0]
        · rw [va_s, b_or, b_bit (by omega) hk2, w10 k hk2, onk_s, u3]
          by_cases z : k = w
          · rw [z, if_pos ⟨kd, rfl⟩]; simp
          · have z2 : ¬ nI w = nI k := fun y => z (nI_inj (by omega) (by omega) y).symm
            rw [if_neg (fun y => z2 y.2), if_neg (fun y => z2 y.2)]; simp [z]
        · rw [w42 k hk2, carA_s, if_neg (fun y => y.elim k0 k1), if_neg (fun y => k3 y.1)]
        · rw [w41 i k hi hk2 z, rsA_s]
          have : gnA A (ai P0) i n = 0 := by unfold gnA; rw [if_neg (fun y => y.elim k0 k1), if_neg k3]
          rw [this, Int64.zero_mul, Int64.add_zero]
      · -- a support is taken
        obtain ⟨w, u1, u2, u3⟩ := isP_of kp
        have k0 : ¬ A 6 n = 0 := by rw [kd]; decide
        have k1 : ¬ A 6 n = 1 := by rw [kd]; decide
        have k2 : ¬ A 6 n = 2 := by rw [kd]; decide
        rw [if_neg k0, if_neg k1, if_neg k2, u3]
        refine Wa_letGo_s (p := p) p7 n2 (by omega) u1 h43 (fun al3 q1 q2 q3 => ?_)
        refine hJ _ _ _ ⟨by rw [cnt_s1 k0], fun k z1 z2 => va_n _ _ z2, q1, fun z => absurd z k1, fun i hi => ?_, fun k hk2 => ?_, fun k hk2 => ?_, fun i k hi hk2 z => ?_⟩
        · rw [va_n _ _ (show 9 ≠ 10 by omega), w9 i hi, cnt_s1 k0]
        · rw [va_s, b_and, b_off (by omega) hk2, w10 k hk2, onk_s, u3, if_neg (fun y => k2 y.1)]
          by_cases z : k = w
          · rw [z, if_pos ⟨kd, rfl⟩]; simp
          · have z2 : ¬ nI w = nI k := fun y => z (nI_inj (by omega) (by omega) y).symm
            rw [if_neg (fun y => z2 y.2)]; simp [z]
        · rw [q3, carA_s, if_neg (fun y => y.elim k0 k1), u3]
          by_cases z : k = w
          · rw [z, pk_uLs, if_pos ⟨kd, rfl⟩]
          · have z2 : ¬ nI w = nI k := fun y => z (nI_inj (by omega) (by omega) y).symm
            rw [pk_uLn z, if_neg (fun y => z2 y.2)]; exact w42 k hk2
        · rw [lf_fac hN h44' h46' (hAd.1 i k (by omega) hk2 z) q s1 s3 (by rw [w9 i (by omega), cnt_s1 k0]) hk2 z (q2 i hi), rsA_s, w41 i k hi hk2 z]
          have : al2 42 w * (ai1 (36 + w) i).toInt64 = gnA A (ai P0) i n := by
            unfold gnA
            rw [if_neg (fun y => y.elim k0 k1), if_pos kd, u3, nC u2, w42 w u1, A1 (36 + w) (by omega)]
          rw [this]
  · rw [va_n _ _ (show 9 ≠ 10 by omega), va_s, b_0]; rfl
  · rw [va_s, b_0]; rfl
end GO
